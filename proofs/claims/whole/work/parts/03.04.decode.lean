theorem dX5_fewest_132 : decode cX5_fewest 132 = .ok (.iload 4, 2) := by decide +kernel
theorem dX5_fewest_134 : decode cX5_fewest 134 = .ok (.iastore, 1) := by decide +kernel
theorem dX5_fewest_135 : decode cX5_fewest 135 = .ok (.iload 6, 2) := by decide +kernel
theorem dX5_fewest_137 : decode cX5_fewest 137 = .ok (.bipush (-4), 2) := by decide +kernel
theorem dX5_fewest_139 : decode cX5_fewest 139 = .ok (.if_icmp .eq 8, 3) := by decide +kernel
theorem dX5_fewest_142 : decode cX5_fewest 142 = .ok (.iload_n 3, 1) := by decide +kernel
theorem dX5_fewest_143 : decode cX5_fewest 143 = .ok (.iconst 1, 1) := by decide +kernel
theorem dX5_fewest_144 : decode cX5_fewest 144 = .ok (.if_icmp .ne 8, 3) := by decide +kernel
theorem dX5_fewest_147 : decode cX5_fewest 147 = .ok (.iload 6, 2) := by decide +kernel
theorem dX5_fewest_149 : decode cX5_fewest 149 = .ok (.goto 5, 3) := by decide +kernel
theorem dX5_fewest_152 : decode cX5_fewest 152 = .ok (.iload 5, 2) := by decide +kernel
theorem dX5_fewest_154 : decode cX5_fewest 154 = .ok (.ireturn, 1) := by decide +kernel
theorem dX5_police_0 : decode cX5_police 0 = .ok (.aload_n 0, 1) := by decide +kernel
theorem dX5_police_1 : decode cX5_police 1 = .ok (.iload_n 1, 1) := by decide +kernel
theorem dX5_police_2 : decode cX5_police 2 = .ok (.invokevirtual 171, 3) := by decide +kernel
theorem dX5_police_5 : decode cX5_police 5 = .ok (.ifCond .eq 13, 3) := by decide +kernel
theorem dX5_police_8 : decode cX5_police 8 = .ok (.iload_n 2, 1) := by decide +kernel
theorem dX5_police_9 : decode cX5_police 9 = .ok (.i2l, 1) := by decide +kernel
theorem dX5_police_10 : decode cX5_police 10 = .ok (.lconst 0, 1) := by decide +kernel
theorem dX5_police_11 : decode cX5_police 11 = .ok (.lconst 1, 1) := by decide +kernel
theorem dX5_police_12 : decode cX5_police 12 = .ok (.invokestatic 53, 3) := by decide +kernel
theorem dX5_police_15 : decode cX5_police 15 = .ok (.ifCond .ne 5, 3) := by decide +kernel
theorem dX5_police_18 : decode cX5_police 18 = .ok (.iconst (-1), 1) := by decide +kernel
theorem dX5_police_19 : decode cX5_police 19 = .ok (.ireturn, 1) := by decide +kernel
theorem dX5_police_20 : decode cX5_police 20 = .ok (.aload_n 0, 1) := by decide +kernel
theorem dX5_police_21 : decode cX5_police 21 = .ok (.getfield 7, 3) := by decide +kernel
theorem dX5_police_24 : decode cX5_police 24 = .ok (.bipush 40, 2) := by decide +kernel
theorem dX5_police_26 : decode cX5_police 26 = .ok (.iaload, 1) := by decide +kernel
theorem dX5_police_27 : decode cX5_police 27 = .ok (.istore_n 3, 1) := by decide +kernel
theorem dX5_police_28 : decode cX5_police 28 = .ok (.bipush 100, 2) := by decide +kernel
theorem dX5_police_30 : decode cX5_police 30 = .ok (.istore 4, 2) := by decide +kernel
theorem dX5_police_32 : decode cX5_police 32 = .ok (.bipush (-4), 2) := by decide +kernel
theorem dX5_police_34 : decode cX5_police 34 = .ok (.istore 5, 2) := by decide +kernel
theorem dX5_police_36 : decode cX5_police 36 = .ok (.iconst 0, 1) := by decide +kernel
theorem dX5_police_37 : decode cX5_police 37 = .ok (.istore 6, 2) := by decide +kernel
theorem dX5_police_39 : decode cX5_police 39 = .ok (.iload 6, 2) := by decide +kernel
theorem dX5_police_41 : decode cX5_police 41 = .ok (.aload_n 0, 1) := by decide +kernel
theorem dX5_police_42 : decode cX5_police 42 = .ok (.invokevirtual 150, 3) := by decide +kernel
theorem dX5_police_45 : decode cX5_police 45 = .ok (.if_icmp .ge 93, 3) := by decide +kernel
theorem dX5_police_48 : decode cX5_police 48 = .ok (.iload 6, 2) := by decide +kernel
theorem dX5_police_50 : decode cX5_police 50 = .ok (.iload_n 3, 1) := by decide +kernel
theorem dX5_police_51 : decode cX5_police 51 = .ok (.iand, 1) := by decide +kernel
theorem dX5_police_52 : decode cX5_police 52 = .ok (.ifCond .ne 80, 3) := by decide +kernel
theorem dX5_police_55 : decode cX5_police 55 = .ok (.iload 6, 2) := by decide +kernel
theorem dX5_police_57 : decode cX5_police 57 = .ok (.iload_n 1, 1) := by decide +kernel
theorem dX5_police_58 : decode cX5_police 58 = .ok (.ishr, 1) := by decide +kernel
theorem dX5_police_59 : decode cX5_police 59 = .ok (.iconst 1, 1) := by decide +kernel
theorem dX5_police_60 : decode cX5_police 60 = .ok (.iand, 1) := by decide +kernel
theorem dX5_police_61 : decode cX5_police 61 = .ok (.ifCond .ne 71, 3) := by decide +kernel
theorem dX5_police_64 : decode cX5_police 64 = .ok (.iload 6, 2) := by decide +kernel
theorem dX5_police_66 : decode cX5_police 66 = .ok (.invokestatic 220, 3) := by decide +kernel
theorem dX5_police_69 : decode cX5_police 69 = .ok (.iload 4, 2) := by decide +kernel
theorem dX5_police_71 : decode cX5_police 71 = .ok (.if_icmp .ge 61, 3) := by decide +kernel
theorem dX5_police_74 : decode cX5_police 74 = .ok (.aload_n 0, 1) := by decide +kernel
theorem dX5_police_75 : decode cX5_police 75 = .ok (.getfield 7, 3) := by decide +kernel
theorem dX5_police_78 : decode cX5_police 78 = .ok (.bipush 40, 2) := by decide +kernel
theorem dX5_police_80 : decode cX5_police 80 = .ok (.iload_n 3, 1) := by decide +kernel
theorem dX5_police_81 : decode cX5_police 81 = .ok (.iload 6, 2) := by decide +kernel
theorem dX5_police_83 : decode cX5_police 83 = .ok (.ior, 1) := by decide +kernel
theorem dX5_police_84 : decode cX5_police 84 = .ok (.iastore, 1) := by decide +kernel
theorem dX5_police_85 : decode cX5_police 85 = .ok (.aload_n 0, 1) := by decide +kernel
theorem dX5_police_86 : decode cX5_police 86 = .ok (.iload_n 1, 1) := by decide +kernel
theorem dX5_police_87 : decode cX5_police 87 = .ok (.iconst 1, 1) := by decide +kernel
theorem dX5_police_88 : decode cX5_police 88 = .ok (.invokevirtual 223, 3) := by decide +kernel
theorem dX5_police_91 : decode cX5_police 91 = .ok (.ifCond .ne 7, 3) := by decide +kernel
theorem dX5_police_94 : decode cX5_police 94 = .ok (.iconst 1, 1) := by decide +kernel
theorem dX5_police_95 : decode cX5_police 95 = .ok (.goto 4, 3) := by decide +kernel
theorem dX5_police_98 : decode cX5_police 98 = .ok (.iconst 0, 1) := by decide +kernel
theorem dX5_police_99 : decode cX5_police 99 = .ok (.istore 7, 2) := by decide +kernel
theorem dX5_police_101 : decode cX5_police 101 = .ok (.iload 7, 2) := by decide +kernel
theorem dX5_police_103 : decode cX5_police 103 = .ok (.ifCond .eq 8, 3) := by decide +kernel
theorem dX5_police_106 : decode cX5_police 106 = .ok (.iload 6, 2) := by decide +kernel
theorem dX5_police_108 : decode cX5_police 108 = .ok (.goto 5, 3) := by decide +kernel
theorem dX5_police_111 : decode cX5_police 111 = .ok (.iload 5, 2) := by decide +kernel
theorem dX5_police_113 : decode cX5_police 113 = .ok (.istore 5, 2) := by decide +kernel
theorem dX5_police_115 : decode cX5_police 115 = .ok (.iload 7, 2) := by decide +kernel
theorem dX5_police_117 : decode cX5_police 117 = .ok (.ifCond .eq 11, 3) := by decide +kernel
theorem dX5_police_120 : decode cX5_police 120 = .ok (.iload 6, 2) := by decide +kernel
theorem dX5_police_122 : decode cX5_police 122 = .ok (.invokestatic 220, 3) := by decide +kernel
theorem dX5_police_125 : decode cX5_police 125 = .ok (.goto 5, 3) := by decide +kernel
theorem dX5_police_128 : decode cX5_police 128 = .ok (.iload 4, 2) := by decide +kernel
theorem dX5_police_130 : decode cX5_police 130 = .ok (.istore 4, 2) := by decide +kernel
theorem dX5_police_132 : decode cX5_police 132 = .ok (.iinc 6 1, 3) := by decide +kernel
theorem dX5_police_135 : decode cX5_police 135 = .ok (.goto (-96), 3) := by decide +kernel
theorem dX5_police_138 : decode cX5_police 138 = .ok (.aload_n 0, 1) := by decide +kernel
theorem dX5_police_139 : decode cX5_police 139 = .ok (.getfield 7, 3) := by decide +kernel
theorem dX5_police_142 : decode cX5_police 142 = .ok (.bipush 40, 2) := by decide +kernel
theorem dX5_police_144 : decode cX5_police 144 = .ok (.iload_n 3, 1) := by decide +kernel
theorem dX5_police_145 : decode cX5_police 145 = .ok (.iastore, 1) := by decide +kernel
theorem dX5_police_146 : decode cX5_police 146 = .ok (.iload 5, 2) := by decide +kernel
theorem dX5_police_148 : decode cX5_police 148 = .ok (.bipush (-4), 2) := by decide +kernel
theorem dX5_police_150 : decode cX5_police 150 = .ok (.if_icmp .eq 8, 3) := by decide +kernel
theorem dX5_police_153 : decode cX5_police 153 = .ok (.iload_n 2, 1) := by decide +kernel
theorem dX5_police_154 : decode cX5_police 154 = .ok (.iconst 1, 1) := by decide +kernel
theorem dX5_police_155 : decode cX5_police 155 = .ok (.if_icmp .ne 8, 3) := by decide +kernel
theorem dX5_police_158 : decode cX5_police 158 = .ok (.iload 5, 2) := by decide +kernel
theorem dX5_police_160 : decode cX5_police 160 = .ok (.goto 5, 3) := by decide +kernel
theorem dX5_police_163 : decode cX5_police 163 = .ok (.iload 4, 2) := by decide +kernel
theorem dX5_police_165 : decode cX5_police 165 = .ok (.ireturn, 1) := by decide +kernel
theorem dX5_comes_0 : decode cX5_comes 0 = .ok (.bipush 100, 2) := by decide +kernel
theorem dX5_comes_2 : decode cX5_comes 2 = .ok (.istore_n 1, 1) := by decide +kernel
theorem dX5_comes_3 : decode cX5_comes 3 = .ok (.bipush (-4), 2) := by decide +kernel
theorem dX5_comes_5 : decode cX5_comes 5 = .ok (.istore_n 2, 1) := by decide +kernel
theorem dX5_comes_6 : decode cX5_comes 6 = .ok (.iconst 0, 1) := by decide +kernel
theorem dX5_comes_7 : decode cX5_comes 7 = .ok (.istore_n 3, 1) := by decide +kernel
theorem dX5_comes_8 : decode cX5_comes 8 = .ok (.iload_n 3, 1) := by decide +kernel
theorem dX5_comes_9 : decode cX5_comes 9 = .ok (.aload_n 0, 1) := by decide +kernel
theorem dX5_comes_10 : decode cX5_comes 10 = .ok (.invokevirtual 150, 3) := by decide +kernel
theorem dX5_comes_13 : decode cX5_comes 13 = .ok (.if_icmp .ge 67, 3) := by decide +kernel
theorem dX5_comes_16 : decode cX5_comes 16 = .ok (.iload_n 3, 1) := by decide +kernel
theorem dX5_comes_17 : decode cX5_comes 17 = .ok (.aload_n 0, 1) := by decide +kernel
theorem dX5_comes_18 : decode cX5_comes 18 = .ok (.getfield 7, 3) := by decide +kernel
theorem dX5_comes_21 : decode cX5_comes 21 = .ok (.bipush 41, 2) := by decide +kernel
theorem dX5_comes_23 : decode cX5_comes 23 = .ok (.iaload, 1) := by decide +kernel
theorem dX5_comes_24 : decode cX5_comes 24 = .ok (.ixor, 1) := by decide +kernel
theorem dX5_comes_25 : decode cX5_comes 25 = .ok (.invokestatic 220, 3) := by decide +kernel
theorem dX5_comes_28 : decode cX5_comes 28 = .ok (.istore 4, 2) := by decide +kernel
theorem dX5_comes_30 : decode cX5_comes 30 = .ok (.iload 4, 2) := by decide +kernel
theorem dX5_comes_32 : decode cX5_comes 32 = .ok (.iload_n 1, 1) := by decide +kernel
theorem dX5_comes_33 : decode cX5_comes 33 = .ok (.if_icmp .ge 15, 3) := by decide +kernel
theorem dX5_comes_36 : decode cX5_comes 36 = .ok (.aload_n 0, 1) := by decide +kernel
theorem dX5_comes_37 : decode cX5_comes 37 = .ok (.iload_n 3, 1) := by decide +kernel
theorem dX5_comes_38 : decode cX5_comes 38 = .ok (.invokevirtual 205, 3) := by decide +kernel
theorem dX5_comes_41 : decode cX5_comes 41 = .ok (.ifCond .eq 7, 3) := by decide +kernel
theorem dX5_comes_44 : decode cX5_comes 44 = .ok (.iconst 1, 1) := by decide +kernel
theorem dX5_comes_45 : decode cX5_comes 45 = .ok (.goto 4, 3) := by decide +kernel
theorem dX5_comes_48 : decode cX5_comes 48 = .ok (.iconst 0, 1) := by decide +kernel
theorem dX5_comes_49 : decode cX5_comes 49 = .ok (.istore 5, 2) := by decide +kernel
theorem dX5_comes_51 : decode cX5_comes 51 = .ok (.iload 5, 2) := by decide +kernel
theorem dX5_comes_53 : decode cX5_comes 53 = .ok (.ifCond .eq 7, 3) := by decide +kernel
theorem dX5_comes_56 : decode cX5_comes 56 = .ok (.iload_n 3, 1) := by decide +kernel
theorem dX5_comes_57 : decode cX5_comes 57 = .ok (.goto 4, 3) := by decide +kernel
theorem dX5_comes_60 : decode cX5_comes 60 = .ok (.iload_n 2, 1) := by decide +kernel
theorem dX5_comes_61 : decode cX5_comes 61 = .ok (.istore_n 2, 1) := by decide +kernel
theorem dX5_comes_62 : decode cX5_comes 62 = .ok (.iload 5, 2) := by decide +kernel
theorem dX5_comes_64 : decode cX5_comes 64 = .ok (.ifCond .eq 8, 3) := by decide +kernel
theorem dX5_comes_67 : decode cX5_comes 67 = .ok (.iload 4, 2) := by decide +kernel
theorem dX5_comes_69 : decode cX5_comes 69 = .ok (.goto 4, 3) := by decide +kernel
theorem dX5_comes_72 : decode cX5_comes 72 = .ok (.iload_n 1, 1) := by decide +kernel
theorem dX5_comes_73 : decode cX5_comes 73 = .ok (.istore_n 1, 1) := by decide +kernel
theorem dX5_comes_74 : decode cX5_comes 74 = .ok (.iinc 3 1, 3) := by decide +kernel
theorem dX5_comes_77 : decode cX5_comes 77 = .ok (.goto (-69), 3) := by decide +kernel
theorem dX5_comes_80 : decode cX5_comes 80 = .ok (.iload_n 2, 1) := by decide +kernel
theorem dX5_comes_81 : decode cX5_comes 81 = .ok (.ireturn, 1) := by decide +kernel
theorem dX5_worthOf_0 : decode cX5_worthOf 0 = .ok (.iconst 0, 1) := by decide +kernel
theorem dX5_worthOf_1 : decode cX5_worthOf 1 = .ok (.istore_n 2, 1) := by decide +kernel
theorem dX5_worthOf_2 : decode cX5_worthOf 2 = .ok (.iconst 0, 1) := by decide +kernel
theorem dX5_worthOf_3 : decode cX5_worthOf 3 = .ok (.istore_n 3, 1) := by decide +kernel
theorem dX5_worthOf_4 : decode cX5_worthOf 4 = .ok (.iload_n 3, 1) := by decide +kernel
theorem dX5_worthOf_5 : decode cX5_worthOf 5 = .ok (.aload_n 0, 1) := by decide +kernel
theorem dX5_worthOf_6 : decode cX5_worthOf 6 = .ok (.getfield 13, 3) := by decide +kernel
theorem dX5_worthOf_9 : decode cX5_worthOf 9 = .ok (.if_icmp .ge 31, 3) := by decide +kernel
theorem dX5_worthOf_12 : decode cX5_worthOf 12 = .ok (.iload_n 2, 1) := by decide +kernel
theorem dX5_worthOf_13 : decode cX5_worthOf 13 = .ok (.iload_n 1, 1) := by decide +kernel
theorem dX5_worthOf_14 : decode cX5_worthOf 14 = .ok (.iload_n 3, 1) := by decide +kernel
theorem dX5_worthOf_15 : decode cX5_worthOf 15 = .ok (.ishr, 1) := by decide +kernel
theorem dX5_worthOf_16 : decode cX5_worthOf 16 = .ok (.iconst 1, 1) := by decide +kernel
theorem dX5_worthOf_17 : decode cX5_worthOf 17 = .ok (.iand, 1) := by decide +kernel
theorem dX5_worthOf_18 : decode cX5_worthOf 18 = .ok (.iconst 1, 1) := by decide +kernel
theorem dX5_worthOf_19 : decode cX5_worthOf 19 = .ok (.if_icmp .ne 12, 3) := by decide +kernel
theorem dX5_worthOf_22 : decode cX5_worthOf 22 = .ok (.aload_n 0, 1) := by decide +kernel
theorem dX5_worthOf_23 : decode cX5_worthOf 23 = .ok (.getfield 7, 3) := by decide +kernel
theorem dX5_worthOf_26 : decode cX5_worthOf 26 = .ok (.iload_n 3, 1) := by decide +kernel
theorem dX5_worthOf_27 : decode cX5_worthOf 27 = .ok (.iaload, 1) := by decide +kernel
theorem dX5_worthOf_28 : decode cX5_worthOf 28 = .ok (.goto 4, 3) := by decide +kernel
theorem dX5_worthOf_31 : decode cX5_worthOf 31 = .ok (.iconst 0, 1) := by decide +kernel
theorem dX5_worthOf_32 : decode cX5_worthOf 32 = .ok (.iadd, 1) := by decide +kernel
theorem dX5_worthOf_33 : decode cX5_worthOf 33 = .ok (.istore_n 2, 1) := by decide +kernel
theorem dX5_worthOf_34 : decode cX5_worthOf 34 = .ok (.iinc 3 1, 3) := by decide +kernel
theorem dX5_worthOf_37 : decode cX5_worthOf 37 = .ok (.goto (-33), 3) := by decide +kernel
theorem dX5_worthOf_40 : decode cX5_worthOf 40 = .ok (.iload_n 2, 1) := by decide +kernel
theorem dX5_worthOf_41 : decode cX5_worthOf 41 = .ok (.ireturn, 1) := by decide +kernel
theorem dX5_richest_0 : decode cX5_richest 0 = .ok (.iload_n 1, 1) := by decide +kernel
theorem dX5_richest_1 : decode cX5_richest 1 = .ok (.i2l, 1) := by decide +kernel
theorem dX5_richest_2 : decode cX5_richest 2 = .ok (.lconst 0, 1) := by decide +kernel
theorem dX5_richest_3 : decode cX5_richest 3 = .ok (.lconst 1, 1) := by decide +kernel
theorem dX5_richest_4 : decode cX5_richest 4 = .ok (.invokestatic 53, 3) := by decide +kernel
theorem dX5_richest_7 : decode cX5_richest 7 = .ok (.ifCond .ne 5, 3) := by decide +kernel
theorem dX5_richest_10 : decode cX5_richest 10 = .ok (.iconst (-1), 1) := by decide +kernel
theorem dX5_richest_11 : decode cX5_richest 11 = .ok (.ireturn, 1) := by decide +kernel
theorem dX5_richest_12 : decode cX5_richest 12 = .ok (.bipush (-100), 2) := by decide +kernel
theorem dX5_richest_14 : decode cX5_richest 14 = .ok (.istore_n 2, 1) := by decide +kernel
theorem dX5_richest_15 : decode cX5_richest 15 = .ok (.bipush (-4), 2) := by decide +kernel
theorem dX5_richest_17 : decode cX5_richest 17 = .ok (.istore_n 3, 1) := by decide +kernel
theorem dX5_richest_18 : decode cX5_richest 18 = .ok (.iconst 0, 1) := by decide +kernel
theorem dX5_richest_19 : decode cX5_richest 19 = .ok (.istore 4, 2) := by decide +kernel
theorem dX5_richest_21 : decode cX5_richest 21 = .ok (.iload 4, 2) := by decide +kernel
theorem dX5_richest_23 : decode cX5_richest 23 = .ok (.aload_n 0, 1) := by decide +kernel
theorem dX5_richest_24 : decode cX5_richest 24 = .ok (.invokevirtual 150, 3) := by decide +kernel
theorem dX5_richest_27 : decode cX5_richest 27 = .ok (.if_icmp .ge 63, 3) := by decide +kernel
theorem dX5_richest_30 : decode cX5_richest 30 = .ok (.aload_n 0, 1) := by decide +kernel
theorem dX5_richest_31 : decode cX5_richest 31 = .ok (.iload 4, 2) := by decide +kernel
theorem dX5_richest_33 : decode cX5_richest 33 = .ok (.invokevirtual 227, 3) := by decide +kernel
theorem dX5_richest_36 : decode cX5_richest 36 = .ok (.iload_n 2, 1) := by decide +kernel
theorem dX5_richest_37 : decode cX5_richest 37 = .ok (.if_icmp .le 16, 3) := by decide +kernel
theorem dX5_richest_40 : decode cX5_richest 40 = .ok (.aload_n 0, 1) := by decide +kernel
theorem dX5_richest_41 : decode cX5_richest 41 = .ok (.iload 4, 2) := by decide +kernel
theorem dX5_richest_43 : decode cX5_richest 43 = .ok (.invokevirtual 205, 3) := by decide +kernel
theorem dX5_richest_46 : decode cX5_richest 46 = .ok (.ifCond .eq 7, 3) := by decide +kernel
theorem dX5_richest_49 : decode cX5_richest 49 = .ok (.iconst 1, 1) := by decide +kernel
theorem dX5_richest_50 : decode cX5_richest 50 = .ok (.goto 4, 3) := by decide +kernel
theorem dX5_richest_53 : decode cX5_richest 53 = .ok (.iconst 0, 1) := by decide +kernel
theorem dX5_richest_54 : decode cX5_richest 54 = .ok (.istore 5, 2) := by decide +kernel
theorem dX5_richest_56 : decode cX5_richest 56 = .ok (.iload 5, 2) := by decide +kernel
theorem dX5_richest_58 : decode cX5_richest 58 = .ok (.ifCond .eq 8, 3) := by decide +kernel
theorem dX5_richest_61 : decode cX5_richest 61 = .ok (.iload 4, 2) := by decide +kernel
theorem dX5_richest_63 : decode cX5_richest 63 = .ok (.goto 4, 3) := by decide +kernel
theorem dX5_richest_66 : decode cX5_richest 66 = .ok (.iload_n 3, 1) := by decide +kernel
theorem dX5_richest_67 : decode cX5_richest 67 = .ok (.istore_n 3, 1) := by decide +kernel
theorem dX5_richest_68 : decode cX5_richest 68 = .ok (.iload 5, 2) := by decide +kernel
theorem dX5_richest_70 : decode cX5_richest 70 = .ok (.ifCond .eq 12, 3) := by decide +kernel
theorem dX5_richest_73 : decode cX5_richest 73 = .ok (.aload_n 0, 1) := by decide +kernel
theorem dX5_richest_74 : decode cX5_richest 74 = .ok (.iload 4, 2) := by decide +kernel
theorem dX5_richest_76 : decode cX5_richest 76 = .ok (.invokevirtual 227, 3) := by decide +kernel
theorem dX5_richest_79 : decode cX5_richest 79 = .ok (.goto 4, 3) := by decide +kernel
theorem dX5_richest_82 : decode cX5_richest 82 = .ok (.iload_n 2, 1) := by decide +kernel
theorem dX5_richest_83 : decode cX5_richest 83 = .ok (.istore_n 2, 1) := by decide +kernel
theorem dX5_richest_84 : decode cX5_richest 84 = .ok (.iinc 4 1, 3) := by decide +kernel
theorem dX5_richest_87 : decode cX5_richest 87 = .ok (.goto (-66), 3) := by decide +kernel
theorem dX5_richest_90 : decode cX5_richest 90 = .ok (.iload_n 3, 1) := by decide +kernel
theorem dX5_richest_91 : decode cX5_richest 91 = .ok (.bipush (-4), 2) := by decide +kernel
theorem dX5_richest_93 : decode cX5_richest 93 = .ok (.if_icmp .eq 7, 3) := by decide +kernel
theorem dX5_richest_96 : decode cX5_richest 96 = .ok (.iload_n 1, 1) := by decide +kernel
theorem dX5_richest_97 : decode cX5_richest 97 = .ok (.ifCond .ne 7, 3) := by decide +kernel
theorem dX5_richest_100 : decode cX5_richest 100 = .ok (.iload_n 3, 1) := by decide +kernel
theorem dX5_richest_101 : decode cX5_richest 101 = .ok (.goto 7, 3) := by decide +kernel
theorem dX5_richest_104 : decode cX5_richest 104 = .ok (.bipush 100, 2) := by decide +kernel
theorem dX5_richest_106 : decode cX5_richest 106 = .ok (.iload_n 2, 1) := by decide +kernel
theorem dX5_richest_107 : decode cX5_richest 107 = .ok (.iadd, 1) := by decide +kernel
theorem dX5_richest_108 : decode cX5_richest 108 = .ok (.ireturn, 1) := by decide +kernel
theorem dX5_lowest_0 : decode cX5_lowest 0 = .ok (.lload_n 0, 1) := by decide +kernel
theorem dX5_lowest_1 : decode cX5_lowest 1 = .ok (.lstore 5, 2) := by decide +kernel
theorem dX5_lowest_3 : decode cX5_lowest 3 = .ok (.lload_n 2, 1) := by decide +kernel
theorem dX5_lowest_4 : decode cX5_lowest 4 = .ok (.lstore 7, 2) := by decide +kernel
theorem dX5_lowest_6 : decode cX5_lowest 6 = .ok (.lload 7, 2) := by decide +kernel
theorem dX5_lowest_8 : decode cX5_lowest 8 = .ok (.lconst 0, 1) := by decide +kernel
theorem dX5_lowest_9 : decode cX5_lowest 9 = .ok (.lcmp, 1) := by decide +kernel
theorem dX5_lowest_10 : decode cX5_lowest 10 = .ok (.ifCond .eq 21, 3) := by decide +kernel
theorem dX5_lowest_13 : decode cX5_lowest 13 = .ok (.lload 5, 2) := by decide +kernel
theorem dX5_lowest_15 : decode cX5_lowest 15 = .ok (.lload 7, 2) := by decide +kernel
theorem dX5_lowest_17 : decode cX5_lowest 17 = .ok (.lrem, 1) := by decide +kernel
theorem dX5_lowest_18 : decode cX5_lowest 18 = .ok (.lstore 9, 2) := by decide +kernel
theorem dX5_lowest_20 : decode cX5_lowest 20 = .ok (.lload 7, 2) := by decide +kernel
theorem dX5_lowest_22 : decode cX5_lowest 22 = .ok (.lstore 5, 2) := by decide +kernel
theorem dX5_lowest_24 : decode cX5_lowest 24 = .ok (.lload 9, 2) := by decide +kernel
theorem dX5_lowest_26 : decode cX5_lowest 26 = .ok (.lstore 7, 2) := by decide +kernel
theorem dX5_lowest_28 : decode cX5_lowest 28 = .ok (.goto (-22), 3) := by decide +kernel
theorem dX5_lowest_31 : decode cX5_lowest 31 = .ok (.iload 4, 2) := by decide +kernel
theorem dX5_lowest_33 : decode cX5_lowest 33 = .ok (.ifCond .ne 7, 3) := by decide +kernel
theorem dX5_lowest_36 : decode cX5_lowest 36 = .ok (.lload_n 0, 1) := by decide +kernel
theorem dX5_lowest_37 : decode cX5_lowest 37 = .ok (.goto 4, 3) := by decide +kernel
theorem dX5_lowest_40 : decode cX5_lowest 40 = .ok (.lload_n 2, 1) := by decide +kernel
theorem dX5_lowest_41 : decode cX5_lowest 41 = .ok (.lload 5, 2) := by decide +kernel
theorem dX5_lowest_43 : decode cX5_lowest 43 = .ok (.ldiv, 1) := by decide +kernel
theorem dX5_lowest_44 : decode cX5_lowest 44 = .ok (.lreturn, 1) := by decide +kernel
theorem dX5_meanOf_0 : decode cX5_meanOf 0 = .ok (.lconst 0, 1) := by decide +kernel
theorem dX5_meanOf_1 : decode cX5_meanOf 1 = .ok (.lstore 5, 2) := by decide +kernel
theorem dX5_meanOf_3 : decode cX5_meanOf 3 = .ok (.lconst 1, 1) := by decide +kernel
theorem dX5_meanOf_4 : decode cX5_meanOf 4 = .ok (.lstore 7, 2) := by decide +kernel
theorem dX5_meanOf_6 : decode cX5_meanOf 6 = .ok (.iconst 0, 1) := by decide +kernel
theorem dX5_meanOf_7 : decode cX5_meanOf 7 = .ok (.istore 9, 2) := by decide +kernel
theorem dX5_meanOf_9 : decode cX5_meanOf 9 = .ok (.iload 9, 2) := by decide +kernel
theorem dX5_meanOf_11 : decode cX5_meanOf 11 = .ok (.aload_n 0, 1) := by decide +kernel
theorem dX5_meanOf_12 : decode cX5_meanOf 12 = .ok (.getfield 7, 3) := by decide +kernel
theorem dX5_meanOf_15 : decode cX5_meanOf 15 = .ok (.bipush 38, 2) := by decide +kernel
theorem dX5_meanOf_17 : decode cX5_meanOf 17 = .ok (.iaload, 1) := by decide +kernel
theorem dX5_meanOf_18 : decode cX5_meanOf 18 = .ok (.if_icmp .ge 17, 3) := by decide +kernel
theorem dX5_meanOf_21 : decode cX5_meanOf 21 = .ok (.lload 7, 2) := by decide +kernel
theorem dX5_meanOf_23 : decode cX5_meanOf 23 = .ok (.ldc2_w 230, 3) := by decide +kernel
theorem dX5_meanOf_26 : decode cX5_meanOf 26 = .ok (.lmul, 1) := by decide +kernel
theorem dX5_meanOf_27 : decode cX5_meanOf 27 = .ok (.lstore 7, 2) := by decide +kernel
theorem dX5_meanOf_29 : decode cX5_meanOf 29 = .ok (.iinc 9 1, 3) := by decide +kernel
theorem dX5_meanOf_32 : decode cX5_meanOf 32 = .ok (.goto (-23), 3) := by decide +kernel
theorem dX5_meanOf_35 : decode cX5_meanOf 35 = .ok (.iconst 0, 1) := by decide +kernel
theorem dX5_meanOf_36 : decode cX5_meanOf 36 = .ok (.istore 9, 2) := by decide +kernel
theorem dX5_meanOf_38 : decode cX5_meanOf 38 = .ok (.iload 9, 2) := by decide +kernel
theorem dX5_meanOf_40 : decode cX5_meanOf 40 = .ok (.iconst 1, 1) := by decide +kernel
theorem dX5_meanOf_41 : decode cX5_meanOf 41 = .ok (.aload_n 0, 1) := by decide +kernel
theorem dX5_meanOf_42 : decode cX5_meanOf 42 = .ok (.getfield 7, 3) := by decide +kernel
theorem dX5_meanOf_45 : decode cX5_meanOf 45 = .ok (.bipush 38, 2) := by decide +kernel
theorem dX5_meanOf_47 : decode cX5_meanOf 47 = .ok (.iaload, 1) := by decide +kernel
theorem dX5_meanOf_48 : decode cX5_meanOf 48 = .ok (.ishl, 1) := by decide +kernel
theorem dX5_meanOf_49 : decode cX5_meanOf 49 = .ok (.if_icmp .ge 117, 3) := by decide +kernel
theorem dX5_meanOf_52 : decode cX5_meanOf 52 = .ok (.aload_n 0, 1) := by decide +kernel
theorem dX5_meanOf_53 : decode cX5_meanOf 53 = .ok (.iload 9, 2) := by decide +kernel
theorem dX5_meanOf_55 : decode cX5_meanOf 55 = .ok (.putfield 20, 3) := by decide +kernel
theorem dX5_meanOf_58 : decode cX5_meanOf 58 = .ok (.iload_n 3, 1) := by decide +kernel
theorem dX5_meanOf_59 : decode cX5_meanOf 59 = .ok (.ifCond .ne 20, 3) := by decide +kernel
theorem dX5_meanOf_62 : decode cX5_meanOf 62 = .ok (.aload_n 0, 1) := by decide +kernel
theorem dX5_meanOf_63 : decode cX5_meanOf 63 = .ok (.iload_n 2, 1) := by decide +kernel
theorem dX5_meanOf_64 : decode cX5_meanOf 64 = .ok (.iconst 1, 1) := by decide +kernel
theorem dX5_meanOf_65 : decode cX5_meanOf 65 = .ok (.invokevirtual 223, 3) := by decide +kernel
theorem dX5_meanOf_68 : decode cX5_meanOf 68 = .ok (.ifCond .eq 7, 3) := by decide +kernel
theorem dX5_meanOf_71 : decode cX5_meanOf 71 = .ok (.lconst 1, 1) := by decide +kernel
theorem dX5_meanOf_72 : decode cX5_meanOf 72 = .ok (.goto 32, 3) := by decide +kernel
theorem dX5_meanOf_75 : decode cX5_meanOf 75 = .ok (.lconst 0, 1) := by decide +kernel
theorem dX5_meanOf_76 : decode cX5_meanOf 76 = .ok (.goto 28, 3) := by decide +kernel
theorem dX5_meanOf_79 : decode cX5_meanOf 79 = .ok (.iload_n 3, 1) := by decide +kernel
theorem dX5_meanOf_80 : decode cX5_meanOf 80 = .ok (.iconst 1, 1) := by decide +kernel
theorem dX5_meanOf_81 : decode cX5_meanOf 81 = .ok (.if_icmp .ne 18, 3) := by decide +kernel
theorem dX5_meanOf_84 : decode cX5_meanOf 84 = .ok (.aload_n 0, 1) := by decide +kernel
theorem dX5_meanOf_85 : decode cX5_meanOf 85 = .ok (.invokevirtual 208, 3) := by decide +kernel
theorem dX5_meanOf_88 : decode cX5_meanOf 88 = .ok (.ifCond .ne 7, 3) := by decide +kernel
theorem dX5_meanOf_91 : decode cX5_meanOf 91 = .ok (.lconst 1, 1) := by decide +kernel
theorem dX5_meanOf_92 : decode cX5_meanOf 92 = .ok (.goto 12, 3) := by decide +kernel
theorem dX5_meanOf_95 : decode cX5_meanOf 95 = .ok (.lconst 0, 1) := by decide +kernel
theorem dX5_meanOf_96 : decode cX5_meanOf 96 = .ok (.goto 8, 3) := by decide +kernel
theorem dX5_meanOf_99 : decode cX5_meanOf 99 = .ok (.aload_n 0, 1) := by decide +kernel
theorem dX5_meanOf_100 : decode cX5_meanOf 100 = .ok (.invokevirtual 208, 3) := by decide +kernel
theorem dX5_meanOf_103 : decode cX5_meanOf 103 = .ok (.i2l, 1) := by decide +kernel
theorem dX5_meanOf_104 : decode cX5_meanOf 104 = .ok (.lstore 10, 2) := by decide +kernel
theorem dX5_meanOf_106 : decode cX5_meanOf 106 = .ok (.iconst 0, 1) := by decide +kernel
theorem dX5_meanOf_107 : decode cX5_meanOf 107 = .ok (.istore 12, 2) := by decide +kernel
theorem dX5_meanOf_109 : decode cX5_meanOf 109 = .ok (.iload 12, 2) := by decide +kernel
theorem dX5_meanOf_111 : decode cX5_meanOf 111 = .ok (.aload_n 0, 1) := by decide +kernel
theorem dX5_meanOf_112 : decode cX5_meanOf 112 = .ok (.getfield 7, 3) := by decide +kernel
theorem dX5_meanOf_115 : decode cX5_meanOf 115 = .ok (.bipush 38, 2) := by decide +kernel
theorem dX5_meanOf_117 : decode cX5_meanOf 117 = .ok (.iaload, 1) := by decide +kernel
theorem dX5_meanOf_118 : decode cX5_meanOf 118 = .ok (.if_icmp .ge 35, 3) := by decide +kernel
theorem dX5_meanOf_121 : decode cX5_meanOf 121 = .ok (.lload 10, 2) := by decide +kernel
theorem dX5_meanOf_123 : decode cX5_meanOf 123 = .ok (.iload 9, 2) := by decide +kernel
theorem dX5_meanOf_125 : decode cX5_meanOf 125 = .ok (.iload 12, 2) := by decide +kernel
theorem dX5_meanOf_127 : decode cX5_meanOf 127 = .ok (.ishr, 1) := by decide +kernel
theorem dX5_meanOf_128 : decode cX5_meanOf 128 = .ok (.iconst 1, 1) := by decide +kernel
theorem dX5_meanOf_129 : decode cX5_meanOf 129 = .ok (.iand, 1) := by decide +kernel
theorem dX5_meanOf_130 : decode cX5_meanOf 130 = .ok (.iconst 1, 1) := by decide +kernel
theorem dX5_meanOf_131 : decode cX5_meanOf 131 = .ok (.if_icmp .ne 11, 3) := by decide +kernel
theorem dX5_meanOf_134 : decode cX5_meanOf 134 = .ok (.bipush 10, 2) := by decide +kernel
theorem dX5_meanOf_136 : decode cX5_meanOf 136 = .ok (.iload_n 1, 1) := by decide +kernel
theorem dX5_meanOf_137 : decode cX5_meanOf 137 = .ok (.isub, 1) := by decide +kernel
theorem dX5_meanOf_138 : decode cX5_meanOf 138 = .ok (.i2l, 1) := by decide +kernel
theorem dX5_meanOf_139 : decode cX5_meanOf 139 = .ok (.goto 5, 3) := by decide +kernel
theorem dX5_meanOf_142 : decode cX5_meanOf 142 = .ok (.iload_n 1, 1) := by decide +kernel
theorem dX5_meanOf_143 : decode cX5_meanOf 143 = .ok (.i2l, 1) := by decide +kernel
theorem dX5_meanOf_144 : decode cX5_meanOf 144 = .ok (.lmul, 1) := by decide +kernel
theorem dX5_meanOf_145 : decode cX5_meanOf 145 = .ok (.lstore 10, 2) := by decide +kernel
theorem dX5_meanOf_147 : decode cX5_meanOf 147 = .ok (.iinc 12 1, 3) := by decide +kernel
theorem dX5_meanOf_150 : decode cX5_meanOf 150 = .ok (.goto (-41), 3) := by decide +kernel
theorem dX5_meanOf_153 : decode cX5_meanOf 153 = .ok (.lload 5, 2) := by decide +kernel
theorem dX5_meanOf_155 : decode cX5_meanOf 155 = .ok (.lload 10, 2) := by decide +kernel
theorem dX5_meanOf_157 : decode cX5_meanOf 157 = .ok (.ladd, 1) := by decide +kernel
theorem dX5_meanOf_158 : decode cX5_meanOf 158 = .ok (.lstore 5, 2) := by decide +kernel
theorem dX5_meanOf_160 : decode cX5_meanOf 160 = .ok (.iinc 9 1, 3) := by decide +kernel
theorem dX5_meanOf_163 : decode cX5_meanOf 163 = .ok (.goto (-125), 3) := by decide +kernel
theorem dX5_meanOf_166 : decode cX5_meanOf 166 = .ok (.aload_n 0, 1) := by decide +kernel
theorem dX5_meanOf_167 : decode cX5_meanOf 167 = .ok (.sipush 255, 3) := by decide +kernel
theorem dX5_meanOf_170 : decode cX5_meanOf 170 = .ok (.putfield 20, 3) := by decide +kernel
theorem dX5_meanOf_173 : decode cX5_meanOf 173 = .ok (.lload 5, 2) := by decide +kernel
theorem dX5_meanOf_175 : decode cX5_meanOf 175 = .ok (.lload 7, 2) := by decide +kernel
theorem dX5_meanOf_177 : decode cX5_meanOf 177 = .ok (.iload 4, 2) := by decide +kernel
theorem dX5_meanOf_179 : decode cX5_meanOf 179 = .ok (.invokestatic 232, 3) := by decide +kernel
theorem dX5_meanOf_182 : decode cX5_meanOf 182 = .ok (.lreturn, 1) := by decide +kernel
theorem dX5_odds_0 : decode cX5_odds 0 = .ok (.iload_n 1, 1) := by decide +kernel
theorem dX5_odds_1 : decode cX5_odds 1 = .ok (.i2l, 1) := by decide +kernel
theorem dX5_odds_2 : decode cX5_odds 2 = .ok (.lconst 0, 1) := by decide +kernel
theorem dX5_odds_3 : decode cX5_odds 3 = .ok (.ldc2_w 230, 3) := by decide +kernel
theorem dX5_odds_6 : decode cX5_odds 6 = .ok (.invokestatic 53, 3) := by decide +kernel
theorem dX5_odds_9 : decode cX5_odds 9 = .ok (.ifCond .eq 32, 3) := by decide +kernel
theorem dX5_odds_12 : decode cX5_odds 12 = .ok (.aload_n 0, 1) := by decide +kernel
theorem dX5_odds_13 : decode cX5_odds 13 = .ok (.iload_n 2, 1) := by decide +kernel
theorem dX5_odds_14 : decode cX5_odds 14 = .ok (.invokevirtual 171, 3) := by decide +kernel
theorem dX5_odds_17 : decode cX5_odds 17 = .ok (.ifCond .eq 24, 3) := by decide +kernel
theorem dX5_odds_20 : decode cX5_odds 20 = .ok (.iload_n 3, 1) := by decide +kernel
theorem dX5_odds_21 : decode cX5_odds 21 = .ok (.i2l, 1) := by decide +kernel
theorem dX5_odds_22 : decode cX5_odds 22 = .ok (.lconst 0, 1) := by decide +kernel
theorem dX5_odds_23 : decode cX5_odds 23 = .ok (.lconst 1, 1) := by decide +kernel
theorem dX5_odds_24 : decode cX5_odds 24 = .ok (.invokestatic 53, 3) := by decide +kernel
theorem dX5_odds_27 : decode cX5_odds 27 = .ok (.ifCond .eq 14, 3) := by decide +kernel
theorem dX5_odds_30 : decode cX5_odds 30 = .ok (.aload_n 0, 1) := by decide +kernel
theorem dX5_odds_31 : decode cX5_odds 31 = .ok (.iload_n 1, 1) := by decide +kernel
theorem dX5_odds_32 : decode cX5_odds 32 = .ok (.iload_n 2, 1) := by decide +kernel
theorem dX5_odds_33 : decode cX5_odds 33 = .ok (.iconst 0, 1) := by decide +kernel
theorem dX5_odds_34 : decode cX5_odds 34 = .ok (.iload_n 3, 1) := by decide +kernel
theorem dX5_odds_35 : decode cX5_odds 35 = .ok (.invokevirtual 236, 3) := by decide +kernel
theorem dX5_odds_38 : decode cX5_odds 38 = .ok (.goto 6, 3) := by decide +kernel
theorem dX5_odds_41 : decode cX5_odds 41 = .ok (.ldc2_w 240, 3) := by decide +kernel
theorem dX5_odds_44 : decode cX5_odds 44 = .ok (.lreturn, 1) := by decide +kernel
theorem dX5_none_0 : decode cX5_none 0 = .ok (.iload_n 1, 1) := by decide +kernel
theorem dX5_none_1 : decode cX5_none 1 = .ok (.i2l, 1) := by decide +kernel
theorem dX5_none_2 : decode cX5_none 2 = .ok (.lconst 0, 1) := by decide +kernel
theorem dX5_none_3 : decode cX5_none 3 = .ok (.ldc2_w 230, 3) := by decide +kernel
theorem dX5_none_6 : decode cX5_none 6 = .ok (.invokestatic 53, 3) := by decide +kernel
theorem dX5_none_9 : decode cX5_none 9 = .ok (.ifCond .eq 24, 3) := by decide +kernel
theorem dX5_none_12 : decode cX5_none 12 = .ok (.iload_n 2, 1) := by decide +kernel
theorem dX5_none_13 : decode cX5_none 13 = .ok (.i2l, 1) := by decide +kernel
theorem dX5_none_14 : decode cX5_none 14 = .ok (.lconst 0, 1) := by decide +kernel
theorem dX5_none_15 : decode cX5_none 15 = .ok (.lconst 1, 1) := by decide +kernel
theorem dX5_none_16 : decode cX5_none 16 = .ok (.invokestatic 53, 3) := by decide +kernel
theorem dX5_none_19 : decode cX5_none 19 = .ok (.ifCond .eq 14, 3) := by decide +kernel
theorem dX5_none_22 : decode cX5_none 22 = .ok (.aload_n 0, 1) := by decide +kernel
theorem dX5_none_23 : decode cX5_none 23 = .ok (.iload_n 1, 1) := by decide +kernel
theorem dX5_none_24 : decode cX5_none 24 = .ok (.iconst 0, 1) := by decide +kernel
theorem dX5_none_25 : decode cX5_none 25 = .ok (.iconst 1, 1) := by decide +kernel
theorem dX5_none_26 : decode cX5_none 26 = .ok (.iload_n 2, 1) := by decide +kernel
theorem dX5_none_27 : decode cX5_none 27 = .ok (.invokevirtual 236, 3) := by decide +kernel
theorem dX5_none_30 : decode cX5_none 30 = .ok (.goto 6, 3) := by decide +kernel
theorem dX5_none_33 : decode cX5_none 33 = .ok (.ldc2_w 240, 3) := by decide +kernel
theorem dX5_none_36 : decode cX5_none 36 = .ok (.lreturn, 1) := by decide +kernel
theorem dX5_mean_0 : decode cX5_mean 0 = .ok (.iload_n 1, 1) := by decide +kernel
theorem dX5_mean_1 : decode cX5_mean 1 = .ok (.i2l, 1) := by decide +kernel
theorem dX5_mean_2 : decode cX5_mean 2 = .ok (.lconst 0, 1) := by decide +kernel
theorem dX5_mean_3 : decode cX5_mean 3 = .ok (.ldc2_w 230, 3) := by decide +kernel
theorem dX5_mean_6 : decode cX5_mean 6 = .ok (.invokestatic 53, 3) := by decide +kernel
theorem dX5_mean_9 : decode cX5_mean 9 = .ok (.ifCond .eq 24, 3) := by decide +kernel
theorem dX5_mean_12 : decode cX5_mean 12 = .ok (.iload_n 2, 1) := by decide +kernel
theorem dX5_mean_13 : decode cX5_mean 13 = .ok (.i2l, 1) := by decide +kernel
theorem dX5_mean_14 : decode cX5_mean 14 = .ok (.lconst 0, 1) := by decide +kernel
theorem dX5_mean_15 : decode cX5_mean 15 = .ok (.lconst 1, 1) := by decide +kernel
theorem dX5_mean_16 : decode cX5_mean 16 = .ok (.invokestatic 53, 3) := by decide +kernel
theorem dX5_mean_19 : decode cX5_mean 19 = .ok (.ifCond .eq 14, 3) := by decide +kernel
theorem dX5_mean_22 : decode cX5_mean 22 = .ok (.aload_n 0, 1) := by decide +kernel
theorem dX5_mean_23 : decode cX5_mean 23 = .ok (.iload_n 1, 1) := by decide +kernel
theorem dX5_mean_24 : decode cX5_mean 24 = .ok (.iconst 0, 1) := by decide +kernel
theorem dX5_mean_25 : decode cX5_mean 25 = .ok (.iconst 2, 1) := by decide +kernel
theorem dX5_mean_26 : decode cX5_mean 26 = .ok (.iload_n 2, 1) := by decide +kernel
theorem dX5_mean_27 : decode cX5_mean 27 = .ok (.invokevirtual 236, 3) := by decide +kernel
theorem dX5_mean_30 : decode cX5_mean 30 = .ok (.goto 6, 3) := by decide +kernel
theorem dX5_mean_33 : decode cX5_mean 33 = .ok (.ldc2_w 240, 3) := by decide +kernel
theorem dX5_mean_36 : decode cX5_mean 36 = .ok (.lreturn, 1) := by decide +kernel
theorem dX5_see_0 : decode cX5_see 0 = .ok (.aload_n 0, 1) := by decide +kernel
theorem dX5_see_1 : decode cX5_see 1 = .ok (.iload_n 1, 1) := by decide +kernel
theorem dX5_see_2 : decode cX5_see 2 = .ok (.invokevirtual 171, 3) := by decide +kernel
theorem dX5_see_5 : decode cX5_see 5 = .ok (.ifCond .ne 5, 3) := by decide +kernel
theorem dX5_see_8 : decode cX5_see 8 = .ok (.iconst (-1), 1) := by decide +kernel
theorem dX5_see_9 : decode cX5_see 9 = .ok (.ireturn, 1) := by decide +kernel
theorem dX5_see_10 : decode cX5_see 10 = .ok (.aload_n 0, 1) := by decide +kernel
theorem dX5_see_11 : decode cX5_see 11 = .ok (.getfield 147, 3) := by decide +kernel
theorem dX5_see_14 : decode cX5_see 14 = .ok (.bipush 8, 2) := by decide +kernel
theorem dX5_see_16 : decode cX5_see 16 = .ok (.if_icmp .ne 6, 3) := by decide +kernel
theorem dX5_see_19 : decode cX5_see 19 = .ok (.bipush (-3), 2) := by decide +kernel
theorem dX5_see_21 : decode cX5_see 21 = .ok (.ireturn, 1) := by decide +kernel
theorem dX5_see_22 : decode cX5_see 22 = .ok (.aload_n 0, 1) := by decide +kernel
theorem dX5_see_23 : decode cX5_see 23 = .ok (.getfield 35, 3) := by decide +kernel
theorem dX5_see_26 : decode cX5_see 26 = .ok (.iconst 2, 1) := by decide +kernel
theorem dX5_see_27 : decode cX5_see 27 = .ok (.aload_n 0, 1) := by decide +kernel
theorem dX5_see_28 : decode cX5_see 28 = .ok (.getfield 147, 3) := by decide +kernel
theorem dX5_see_31 : decode cX5_see 31 = .ok (.imul, 1) := by decide +kernel
theorem dX5_see_32 : decode cX5_see 32 = .ok (.iload_n 1, 1) := by decide +kernel
theorem dX5_see_33 : decode cX5_see 33 = .ok (.iastore, 1) := by decide +kernel
theorem dX5_see_34 : decode cX5_see 34 = .ok (.aload_n 0, 1) := by decide +kernel
theorem dX5_see_35 : decode cX5_see 35 = .ok (.getfield 35, 3) := by decide +kernel
theorem dX5_see_38 : decode cX5_see 38 = .ok (.iconst 2, 1) := by decide +kernel
theorem dX5_see_39 : decode cX5_see 39 = .ok (.aload_n 0, 1) := by decide +kernel
theorem dX5_see_40 : decode cX5_see 40 = .ok (.getfield 147, 3) := by decide +kernel
theorem dX5_see_43 : decode cX5_see 43 = .ok (.imul, 1) := by decide +kernel
theorem dX5_see_44 : decode cX5_see 44 = .ok (.iconst 1, 1) := by decide +kernel
theorem dX5_see_45 : decode cX5_see 45 = .ok (.iadd, 1) := by decide +kernel
theorem dX5_see_46 : decode cX5_see 46 = .ok (.iload_n 2, 1) := by decide +kernel
theorem dX5_see_47 : decode cX5_see 47 = .ok (.ifCond .eq 7, 3) := by decide +kernel
theorem dX5_see_50 : decode cX5_see 50 = .ok (.iconst 1, 1) := by decide +kernel
theorem dX5_see_51 : decode cX5_see 51 = .ok (.goto 4, 3) := by decide +kernel
theorem dX5_see_54 : decode cX5_see 54 = .ok (.iconst 0, 1) := by decide +kernel
theorem dX5_see_55 : decode cX5_see 55 = .ok (.iastore, 1) := by decide +kernel
theorem dX5_see_56 : decode cX5_see 56 = .ok (.aload_n 0, 1) := by decide +kernel
theorem dX5_see_57 : decode cX5_see 57 = .ok (.dup, 1) := by decide +kernel
theorem dX5_see_58 : decode cX5_see 58 = .ok (.getfield 147, 3) := by decide +kernel
theorem dX5_see_61 : decode cX5_see 61 = .ok (.iconst 1, 1) := by decide +kernel
theorem dX5_see_62 : decode cX5_see 62 = .ok (.iadd, 1) := by decide +kernel
theorem dX5_see_63 : decode cX5_see 63 = .ok (.putfield 147, 3) := by decide +kernel
theorem dX5_see_66 : decode cX5_see 66 = .ok (.aload_n 0, 1) := by decide +kernel
theorem dX5_see_67 : decode cX5_see 67 = .ok (.getfield 147, 3) := by decide +kernel
theorem dX5_see_70 : decode cX5_see 70 = .ok (.ireturn, 1) := by decide +kernel
theorem dX5_forget_0 : decode cX5_forget 0 = .ok (.iload_n 1, 1) := by decide +kernel
theorem dX5_forget_1 : decode cX5_forget 1 = .ok (.i2l, 1) := by decide +kernel
theorem dX5_forget_2 : decode cX5_forget 2 = .ok (.lconst 0, 1) := by decide +kernel
theorem dX5_forget_3 : decode cX5_forget 3 = .ok (.aload_n 0, 1) := by decide +kernel
theorem dX5_forget_4 : decode cX5_forget 4 = .ok (.getfield 147, 3) := by decide +kernel
theorem dX5_forget_7 : decode cX5_forget 7 = .ok (.i2l, 1) := by decide +kernel
theorem dX5_forget_8 : decode cX5_forget 8 = .ok (.invokestatic 53, 3) := by decide +kernel
theorem dX5_forget_11 : decode cX5_forget 11 = .ok (.ifCond .ne 5, 3) := by decide +kernel
theorem dX5_forget_14 : decode cX5_forget 14 = .ok (.iconst (-1), 1) := by decide +kernel
theorem dX5_forget_15 : decode cX5_forget 15 = .ok (.ireturn, 1) := by decide +kernel
theorem dX5_forget_16 : decode cX5_forget 16 = .ok (.aload_n 0, 1) := by decide +kernel
theorem dX5_forget_17 : decode cX5_forget 17 = .ok (.getfield 147, 3) := by decide +kernel
theorem dX5_forget_20 : decode cX5_forget 20 = .ok (.istore_n 2, 1) := by decide +kernel
theorem dX5_forget_21 : decode cX5_forget 21 = .ok (.aload_n 0, 1) := by decide +kernel
theorem dX5_forget_22 : decode cX5_forget 22 = .ok (.iload_n 1, 1) := by decide +kernel
theorem dX5_forget_23 : decode cX5_forget 23 = .ok (.putfield 147, 3) := by decide +kernel
theorem dX5_forget_26 : decode cX5_forget 26 = .ok (.iload_n 2, 1) := by decide +kernel
theorem dX5_forget_27 : decode cX5_forget 27 = .ok (.ireturn, 1) := by decide +kernel
theorem dX5_isFit_0 : decode cX5_isFit 0 = .ok (.aload_n 0, 1) := by decide +kernel
theorem dX5_isFit_1 : decode cX5_isFit 1 = .ok (.iload_n 1, 1) := by decide +kernel
theorem dX5_isFit_2 : decode cX5_isFit 2 = .ok (.invokevirtual 205, 3) := by decide +kernel
theorem dX5_isFit_5 : decode cX5_isFit 5 = .ok (.istore_n 2, 1) := by decide +kernel
theorem dX5_isFit_6 : decode cX5_isFit 6 = .ok (.iconst 0, 1) := by decide +kernel
theorem dX5_isFit_7 : decode cX5_isFit 7 = .ok (.istore_n 3, 1) := by decide +kernel
theorem dX5_isFit_8 : decode cX5_isFit 8 = .ok (.iload_n 3, 1) := by decide +kernel
theorem dX5_isFit_9 : decode cX5_isFit 9 = .ok (.aload_n 0, 1) := by decide +kernel
theorem dX5_isFit_10 : decode cX5_isFit 10 = .ok (.getfield 147, 3) := by decide +kernel
theorem dX5_isFit_13 : decode cX5_isFit 13 = .ok (.if_icmp .ge 44, 3) := by decide +kernel
theorem dX5_isFit_16 : decode cX5_isFit 16 = .ok (.iload_n 2, 1) := by decide +kernel
theorem dX5_isFit_17 : decode cX5_isFit 17 = .ok (.ifCond .eq 32, 3) := by decide +kernel
theorem dX5_isFit_20 : decode cX5_isFit 20 = .ok (.iload_n 1, 1) := by decide +kernel
theorem dX5_isFit_21 : decode cX5_isFit 21 = .ok (.aload_n 0, 1) := by decide +kernel
theorem dX5_isFit_22 : decode cX5_isFit 22 = .ok (.getfield 35, 3) := by decide +kernel
theorem dX5_isFit_25 : decode cX5_isFit 25 = .ok (.iconst 2, 1) := by decide +kernel
theorem dX5_isFit_26 : decode cX5_isFit 26 = .ok (.iload_n 3, 1) := by decide +kernel
theorem dX5_isFit_27 : decode cX5_isFit 27 = .ok (.imul, 1) := by decide +kernel
theorem dX5_isFit_28 : decode cX5_isFit 28 = .ok (.iaload, 1) := by decide +kernel
theorem dX5_isFit_29 : decode cX5_isFit 29 = .ok (.ishr, 1) := by decide +kernel
theorem dX5_isFit_30 : decode cX5_isFit 30 = .ok (.iconst 1, 1) := by decide +kernel
theorem dX5_isFit_31 : decode cX5_isFit 31 = .ok (.iand, 1) := by decide +kernel
theorem dX5_isFit_32 : decode cX5_isFit 32 = .ok (.aload_n 0, 1) := by decide +kernel
theorem dX5_isFit_33 : decode cX5_isFit 33 = .ok (.getfield 35, 3) := by decide +kernel
theorem dX5_isFit_36 : decode cX5_isFit 36 = .ok (.iconst 2, 1) := by decide +kernel
theorem dX5_isFit_37 : decode cX5_isFit 37 = .ok (.iload_n 3, 1) := by decide +kernel
theorem dX5_isFit_38 : decode cX5_isFit 38 = .ok (.imul, 1) := by decide +kernel
theorem dX5_isFit_39 : decode cX5_isFit 39 = .ok (.iconst 1, 1) := by decide +kernel
theorem dX5_isFit_40 : decode cX5_isFit 40 = .ok (.iadd, 1) := by decide +kernel
theorem dX5_isFit_41 : decode cX5_isFit 41 = .ok (.iaload, 1) := by decide +kernel
theorem dX5_isFit_42 : decode cX5_isFit 42 = .ok (.if_icmp .ne 7, 3) := by decide +kernel
theorem dX5_isFit_45 : decode cX5_isFit 45 = .ok (.iconst 1, 1) := by decide +kernel
theorem dX5_isFit_46 : decode cX5_isFit 46 = .ok (.goto 4, 3) := by decide +kernel
theorem dX5_isFit_49 : decode cX5_isFit 49 = .ok (.iconst 0, 1) := by decide +kernel
theorem dX5_isFit_50 : decode cX5_isFit 50 = .ok (.istore_n 2, 1) := by decide +kernel
theorem dX5_isFit_51 : decode cX5_isFit 51 = .ok (.iinc 3 1, 3) := by decide +kernel
theorem dX5_isFit_54 : decode cX5_isFit 54 = .ok (.goto (-46), 3) := by decide +kernel
theorem dX5_isFit_57 : decode cX5_isFit 57 = .ok (.iload_n 2, 1) := by decide +kernel
theorem dX5_isFit_58 : decode cX5_isFit 58 = .ok (.ireturn, 1) := by decide +kernel
theorem dX5_fits_0 : decode cX5_fits 0 = .ok (.iload_n 1, 1) := by decide +kernel
theorem dX5_fits_1 : decode cX5_fits 1 = .ok (.i2l, 1) := by decide +kernel
theorem dX5_fits_2 : decode cX5_fits 2 = .ok (.lconst 0, 1) := by decide +kernel
theorem dX5_fits_3 : decode cX5_fits 3 = .ok (.ldc2_w 242, 3) := by decide +kernel
theorem dX5_fits_6 : decode cX5_fits 6 = .ok (.invokestatic 53, 3) := by decide +kernel
theorem dX5_fits_9 : decode cX5_fits 9 = .ok (.ifCond .ne 5, 3) := by decide +kernel
theorem dX5_fits_12 : decode cX5_fits 12 = .ok (.iconst (-1), 1) := by decide +kernel
theorem dX5_fits_13 : decode cX5_fits 13 = .ok (.ireturn, 1) := by decide +kernel
theorem dX5_fits_14 : decode cX5_fits 14 = .ok (.iconst 0, 1) := by decide +kernel
theorem dX5_fits_15 : decode cX5_fits 15 = .ok (.istore_n 2, 1) := by decide +kernel
theorem dX5_fits_16 : decode cX5_fits 16 = .ok (.bipush (-4), 2) := by decide +kernel
theorem dX5_fits_18 : decode cX5_fits 18 = .ok (.istore_n 3, 1) := by decide +kernel
theorem dX5_fits_19 : decode cX5_fits 19 = .ok (.aload_n 0, 1) := by decide +kernel
theorem dX5_fits_20 : decode cX5_fits 20 = .ok (.invokevirtual 150, 3) := by decide +kernel
theorem dX5_fits_23 : decode cX5_fits 23 = .ok (.iconst 1, 1) := by decide +kernel
theorem dX5_fits_24 : decode cX5_fits 24 = .ok (.isub, 1) := by decide +kernel
theorem dX5_fits_25 : decode cX5_fits 25 = .ok (.istore 4, 2) := by decide +kernel
theorem dX5_fits_27 : decode cX5_fits 27 = .ok (.aload_n 0, 1) := by decide +kernel
theorem dX5_fits_28 : decode cX5_fits 28 = .ok (.invokevirtual 150, 3) := by decide +kernel
theorem dX5_fits_31 : decode cX5_fits 31 = .ok (.iconst 1, 1) := by decide +kernel
theorem dX5_fits_32 : decode cX5_fits 32 = .ok (.isub, 1) := by decide +kernel
theorem dX5_fits_33 : decode cX5_fits 33 = .ok (.istore 5, 2) := by decide +kernel
theorem dX5_fits_35 : decode cX5_fits 35 = .ok (.iconst 0, 1) := by decide +kernel
theorem dX5_fits_36 : decode cX5_fits 36 = .ok (.istore 6, 2) := by decide +kernel
theorem dX5_fits_38 : decode cX5_fits 38 = .ok (.iload 6, 2) := by decide +kernel
theorem dX5_fits_40 : decode cX5_fits 40 = .ok (.aload_n 0, 1) := by decide +kernel
theorem dX5_fits_41 : decode cX5_fits 41 = .ok (.invokevirtual 150, 3) := by decide +kernel
theorem dX5_fits_44 : decode cX5_fits 44 = .ok (.if_icmp .ge 48, 3) := by decide +kernel
theorem dX5_fits_47 : decode cX5_fits 47 = .ok (.aload_n 0, 1) := by decide +kernel
theorem dX5_fits_48 : decode cX5_fits 48 = .ok (.iload 6, 2) := by decide +kernel
theorem dX5_fits_50 : decode cX5_fits 50 = .ok (.invokevirtual 244, 3) := by decide +kernel
theorem dX5_fits_53 : decode cX5_fits 53 = .ok (.ifCond .eq 33, 3) := by decide +kernel
theorem dX5_fits_56 : decode cX5_fits 56 = .ok (.iload_n 2, 1) := by decide +kernel
theorem dX5_fits_57 : decode cX5_fits 57 = .ok (.ifCond .ne 8, 3) := by decide +kernel
theorem dX5_fits_60 : decode cX5_fits 60 = .ok (.iload 6, 2) := by decide +kernel
theorem dX5_fits_62 : decode cX5_fits 62 = .ok (.goto 4, 3) := by decide +kernel
theorem dX5_fits_65 : decode cX5_fits 65 = .ok (.iload_n 3, 1) := by decide +kernel
theorem dX5_fits_66 : decode cX5_fits 66 = .ok (.istore_n 3, 1) := by decide +kernel
theorem dX5_fits_67 : decode cX5_fits 67 = .ok (.iload 4, 2) := by decide +kernel
theorem dX5_fits_69 : decode cX5_fits 69 = .ok (.iload 6, 2) := by decide +kernel
theorem dX5_fits_71 : decode cX5_fits 71 = .ok (.iand, 1) := by decide +kernel
theorem dX5_fits_72 : decode cX5_fits 72 = .ok (.istore 4, 2) := by decide +kernel
theorem dX5_fits_74 : decode cX5_fits 74 = .ok (.iload 5, 2) := by decide +kernel
theorem dX5_fits_76 : decode cX5_fits 76 = .ok (.iload 6, 2) := by decide +kernel
theorem dX5_fits_78 : decode cX5_fits 78 = .ok (.iconst (-1), 1) := by decide +kernel
theorem dX5_fits_79 : decode cX5_fits 79 = .ok (.ixor, 1) := by decide +kernel
theorem dX5_fits_80 : decode cX5_fits 80 = .ok (.iand, 1) := by decide +kernel
theorem dX5_fits_81 : decode cX5_fits 81 = .ok (.istore 5, 2) := by decide +kernel
theorem dX5_fits_83 : decode cX5_fits 83 = .ok (.iinc 2 1, 3) := by decide +kernel
theorem dX5_fits_86 : decode cX5_fits 86 = .ok (.iinc 6 1, 3) := by decide +kernel
theorem dX5_fits_89 : decode cX5_fits 89 = .ok (.goto (-51), 3) := by decide +kernel
theorem dX5_fits_92 : decode cX5_fits 92 = .ok (.iload_n 1, 1) := by decide +kernel
theorem dX5_fits_93 : decode cX5_fits 93 = .ok (.ifCond .eq 7, 3) := by decide +kernel
theorem dX5_fits_96 : decode cX5_fits 96 = .ok (.iload_n 2, 1) := by decide +kernel
theorem dX5_fits_97 : decode cX5_fits 97 = .ok (.ifCond .ne 14, 3) := by decide +kernel
theorem dX5_fits_100 : decode cX5_fits 100 = .ok (.iload_n 1, 1) := by decide +kernel
theorem dX5_fits_101 : decode cX5_fits 101 = .ok (.ifCond .ne 7, 3) := by decide +kernel
theorem dX5_fits_104 : decode cX5_fits 104 = .ok (.iload_n 2, 1) := by decide +kernel
theorem dX5_fits_105 : decode cX5_fits 105 = .ok (.goto 5, 3) := by decide +kernel
theorem dX5_fits_108 : decode cX5_fits 108 = .ok (.bipush (-4), 2) := by decide +kernel
theorem dX5_fits_110 : decode cX5_fits 110 = .ok (.ireturn, 1) := by decide +kernel
theorem dX5_fits_111 : decode cX5_fits 111 = .ok (.iload_n 1, 1) := by decide +kernel
theorem dX5_fits_112 : decode cX5_fits 112 = .ok (.iconst 1, 1) := by decide +kernel
theorem dX5_fits_113 : decode cX5_fits 113 = .ok (.if_icmp .ne 7, 3) := by decide +kernel
theorem dX5_fits_116 : decode cX5_fits 116 = .ok (.iload_n 3, 1) := by decide +kernel
theorem dX5_fits_117 : decode cX5_fits 117 = .ok (.goto 15, 3) := by decide +kernel
theorem dX5_fits_120 : decode cX5_fits 120 = .ok (.iload_n 1, 1) := by decide +kernel
theorem dX5_fits_121 : decode cX5_fits 121 = .ok (.iconst 2, 1) := by decide +kernel
theorem dX5_fits_122 : decode cX5_fits 122 = .ok (.if_icmp .ne 8, 3) := by decide +kernel
theorem dX5_fits_125 : decode cX5_fits 125 = .ok (.iload 4, 2) := by decide +kernel
theorem dX5_fits_127 : decode cX5_fits 127 = .ok (.goto 5, 3) := by decide +kernel
theorem dX5_fits_130 : decode cX5_fits 130 = .ok (.iload 5, 2) := by decide +kernel
theorem dX5_fits_132 : decode cX5_fits 132 = .ok (.ireturn, 1) := by decide +kernel
theorem dX5_ask_0 : decode cX5_ask 0 = .ok (.iload_n 1, 1) := by decide +kernel
theorem dX5_ask_1 : decode cX5_ask 1 = .ok (.i2l, 1) := by decide +kernel
theorem dX5_ask_2 : decode cX5_ask 2 = .ok (.lconst 0, 1) := by decide +kernel
theorem dX5_ask_3 : decode cX5_ask 3 = .ok (.lconst 1, 1) := by decide +kernel
theorem dX5_ask_4 : decode cX5_ask 4 = .ok (.invokestatic 53, 3) := by decide +kernel
theorem dX5_ask_7 : decode cX5_ask 7 = .ok (.ifCond .ne 5, 3) := by decide +kernel
theorem dX5_ask_10 : decode cX5_ask 10 = .ok (.iconst (-1), 1) := by decide +kernel
theorem dX5_ask_11 : decode cX5_ask 11 = .ok (.ireturn, 1) := by decide +kernel
theorem dX5_ask_12 : decode cX5_ask 12 = .ok (.iconst 0, 1) := by decide +kernel
theorem dX5_ask_13 : decode cX5_ask 13 = .ok (.istore_n 2, 1) := by decide +kernel
theorem dX5_ask_14 : decode cX5_ask 14 = .ok (.iconst 0, 1) := by decide +kernel
theorem dX5_ask_15 : decode cX5_ask 15 = .ok (.istore_n 3, 1) := by decide +kernel
theorem dX5_ask_16 : decode cX5_ask 16 = .ok (.iload_n 3, 1) := by decide +kernel
theorem dX5_ask_17 : decode cX5_ask 17 = .ok (.aload_n 0, 1) := by decide +kernel
theorem dX5_ask_18 : decode cX5_ask 18 = .ok (.invokevirtual 150, 3) := by decide +kernel
theorem dX5_ask_21 : decode cX5_ask 21 = .ok (.if_icmp .ge 25, 3) := by decide +kernel
theorem dX5_ask_24 : decode cX5_ask 24 = .ok (.iload_n 2, 1) := by decide +kernel
theorem dX5_ask_25 : decode cX5_ask 25 = .ok (.aload_n 0, 1) := by decide +kernel
theorem dX5_ask_26 : decode cX5_ask 26 = .ok (.iload_n 3, 1) := by decide +kernel
theorem dX5_ask_27 : decode cX5_ask 27 = .ok (.invokevirtual 244, 3) := by decide +kernel
theorem dX5_ask_30 : decode cX5_ask 30 = .ok (.ifCond .eq 7, 3) := by decide +kernel
theorem dX5_ask_33 : decode cX5_ask 33 = .ok (.iconst 1, 1) := by decide +kernel
theorem dX5_ask_34 : decode cX5_ask 34 = .ok (.goto 4, 3) := by decide +kernel
theorem dX5_ask_37 : decode cX5_ask 37 = .ok (.iconst 0, 1) := by decide +kernel
theorem dX5_ask_38 : decode cX5_ask 38 = .ok (.iadd, 1) := by decide +kernel
theorem dX5_ask_39 : decode cX5_ask 39 = .ok (.istore_n 2, 1) := by decide +kernel
theorem dX5_ask_40 : decode cX5_ask 40 = .ok (.iinc 3 1, 3) := by decide +kernel
theorem dX5_ask_43 : decode cX5_ask 43 = .ok (.goto (-27), 3) := by decide +kernel
theorem dX5_ask_46 : decode cX5_ask 46 = .ok (.iload_n 2, 1) := by decide +kernel
theorem dX5_ask_47 : decode cX5_ask 47 = .ok (.istore_n 3, 1) := by decide +kernel
theorem dX5_ask_48 : decode cX5_ask 48 = .ok (.bipush (-4), 2) := by decide +kernel
theorem dX5_ask_50 : decode cX5_ask 50 = .ok (.istore 4, 2) := by decide +kernel
theorem dX5_ask_52 : decode cX5_ask 52 = .ok (.iconst 0, 1) := by decide +kernel
theorem dX5_ask_53 : decode cX5_ask 53 = .ok (.istore 5, 2) := by decide +kernel
theorem dX5_ask_55 : decode cX5_ask 55 = .ok (.iload 5, 2) := by decide +kernel
theorem dX5_ask_57 : decode cX5_ask 57 = .ok (.aload_n 0, 1) := by decide +kernel
theorem dX5_ask_58 : decode cX5_ask 58 = .ok (.getfield 13, 3) := by decide +kernel
theorem dX5_ask_61 : decode cX5_ask 61 = .ok (.if_icmp .ge 108, 3) := by decide +kernel
theorem dX5_ask_64 : decode cX5_ask 64 = .ok (.iconst 0, 1) := by decide +kernel
theorem dX5_ask_65 : decode cX5_ask 65 = .ok (.istore 6, 2) := by decide +kernel
theorem dX5_ask_67 : decode cX5_ask 67 = .ok (.iconst 0, 1) := by decide +kernel
theorem dX5_ask_68 : decode cX5_ask 68 = .ok (.istore 7, 2) := by decide +kernel
theorem dX5_ask_70 : decode cX5_ask 70 = .ok (.iload 7, 2) := by decide +kernel
theorem dX5_ask_72 : decode cX5_ask 72 = .ok (.aload_n 0, 1) := by decide +kernel
theorem dX5_ask_73 : decode cX5_ask 73 = .ok (.invokevirtual 150, 3) := by decide +kernel
theorem dX5_ask_76 : decode cX5_ask 76 = .ok (.if_icmp .ge 39, 3) := by decide +kernel
theorem dX5_ask_79 : decode cX5_ask 79 = .ok (.iload 6, 2) := by decide +kernel
theorem dX5_ask_81 : decode cX5_ask 81 = .ok (.iload 7, 2) := by decide +kernel
theorem dX5_ask_83 : decode cX5_ask 83 = .ok (.iload 5, 2) := by decide +kernel
theorem dX5_ask_85 : decode cX5_ask 85 = .ok (.ishr, 1) := by decide +kernel
theorem dX5_ask_86 : decode cX5_ask 86 = .ok (.iconst 1, 1) := by decide +kernel
theorem dX5_ask_87 : decode cX5_ask 87 = .ok (.iand, 1) := by decide +kernel
theorem dX5_ask_88 : decode cX5_ask 88 = .ok (.iconst 1, 1) := by decide +kernel
theorem dX5_ask_89 : decode cX5_ask 89 = .ok (.if_icmp .ne 16, 3) := by decide +kernel
theorem dX5_ask_92 : decode cX5_ask 92 = .ok (.aload_n 0, 1) := by decide +kernel
theorem dX5_ask_93 : decode cX5_ask 93 = .ok (.iload 7, 2) := by decide +kernel
theorem dX5_ask_95 : decode cX5_ask 95 = .ok (.invokevirtual 244, 3) := by decide +kernel
theorem dX5_ask_98 : decode cX5_ask 98 = .ok (.ifCond .eq 7, 3) := by decide +kernel
theorem dX5_ask_101 : decode cX5_ask 101 = .ok (.iconst 1, 1) := by decide +kernel
theorem dX5_ask_102 : decode cX5_ask 102 = .ok (.goto 4, 3) := by decide +kernel
theorem dX5_ask_105 : decode cX5_ask 105 = .ok (.iconst 0, 1) := by decide +kernel
theorem dX5_ask_106 : decode cX5_ask 106 = .ok (.iadd, 1) := by decide +kernel
theorem dX5_ask_107 : decode cX5_ask 107 = .ok (.istore 6, 2) := by decide +kernel
theorem dX5_ask_109 : decode cX5_ask 109 = .ok (.iinc 7 1, 3) := by decide +kernel
theorem dX5_ask_112 : decode cX5_ask 112 = .ok (.goto (-42), 3) := by decide +kernel
theorem dX5_ask_115 : decode cX5_ask 115 = .ok (.iload 6, 2) := by decide +kernel
theorem dX5_ask_117 : decode cX5_ask 117 = .ok (.iload_n 2, 1) := by decide +kernel
theorem dX5_ask_118 : decode cX5_ask 118 = .ok (.iload 6, 2) := by decide +kernel
theorem dX5_ask_120 : decode cX5_ask 120 = .ok (.isub, 1) := by decide +kernel
theorem dX5_ask_121 : decode cX5_ask 121 = .ok (.if_icmp .le 8, 3) := by decide +kernel
theorem dX5_ask_124 : decode cX5_ask 124 = .ok (.iload 6, 2) := by decide +kernel
theorem dX5_ask_126 : decode cX5_ask 126 = .ok (.goto 7, 3) := by decide +kernel
theorem dX5_ask_129 : decode cX5_ask 129 = .ok (.iload_n 2, 1) := by decide +kernel
theorem dX5_ask_130 : decode cX5_ask 130 = .ok (.iload 6, 2) := by decide +kernel
theorem dX5_ask_132 : decode cX5_ask 132 = .ok (.isub, 1) := by decide +kernel
theorem dX5_ask_133 : decode cX5_ask 133 = .ok (.istore 7, 2) := by decide +kernel
theorem dX5_ask_135 : decode cX5_ask 135 = .ok (.iload 7, 2) := by decide +kernel
theorem dX5_ask_137 : decode cX5_ask 137 = .ok (.iload_n 3, 1) := by decide +kernel
theorem dX5_ask_138 : decode cX5_ask 138 = .ok (.if_icmp .ge 8, 3) := by decide +kernel
theorem dX5_ask_141 : decode cX5_ask 141 = .ok (.iload 5, 2) := by decide +kernel
theorem dX5_ask_143 : decode cX5_ask 143 = .ok (.goto 5, 3) := by decide +kernel
theorem dX5_ask_146 : decode cX5_ask 146 = .ok (.iload 4, 2) := by decide +kernel
theorem dX5_ask_148 : decode cX5_ask 148 = .ok (.istore 4, 2) := by decide +kernel
theorem dX5_ask_150 : decode cX5_ask 150 = .ok (.iload 7, 2) := by decide +kernel
theorem dX5_ask_152 : decode cX5_ask 152 = .ok (.iload_n 3, 1) := by decide +kernel
theorem dX5_ask_153 : decode cX5_ask 153 = .ok (.if_icmp .ge 8, 3) := by decide +kernel
theorem dX5_ask_156 : decode cX5_ask 156 = .ok (.iload 7, 2) := by decide +kernel
theorem dX5_ask_158 : decode cX5_ask 158 = .ok (.goto 4, 3) := by decide +kernel
theorem dX5_ask_161 : decode cX5_ask 161 = .ok (.iload_n 3, 1) := by decide +kernel
theorem dX5_ask_162 : decode cX5_ask 162 = .ok (.istore_n 3, 1) := by decide +kernel
theorem dX5_ask_163 : decode cX5_ask 163 = .ok (.iinc 5 1, 3) := by decide +kernel
theorem dX5_ask_166 : decode cX5_ask 166 = .ok (.goto (-111), 3) := by decide +kernel
theorem dX5_ask_169 : decode cX5_ask 169 = .ok (.iload 4, 2) := by decide +kernel
theorem dX5_ask_171 : decode cX5_ask 171 = .ok (.bipush (-4), 2) := by decide +kernel
theorem dX5_ask_173 : decode cX5_ask 173 = .ok (.if_icmp .eq 7, 3) := by decide +kernel
theorem dX5_ask_176 : decode cX5_ask 176 = .ok (.iload_n 1, 1) := by decide +kernel
theorem dX5_ask_177 : decode cX5_ask 177 = .ok (.ifCond .ne 8, 3) := by decide +kernel
theorem dX5_ask_180 : decode cX5_ask 180 = .ok (.iload 4, 2) := by decide +kernel
theorem dX5_ask_182 : decode cX5_ask 182 = .ok (.goto 4, 3) := by decide +kernel
theorem dX5_ask_185 : decode cX5_ask 185 = .ok (.iload_n 3, 1) := by decide +kernel
theorem dX5_ask_186 : decode cX5_ask 186 = .ok (.ireturn, 1) := by decide +kernel
theorem dX5_drift_0 : decode cX5_drift 0 = .ok (.iload_n 2, 1) := by decide +kernel
theorem dX5_drift_1 : decode cX5_drift 1 = .ok (.i2l, 1) := by decide +kernel
theorem dX5_drift_2 : decode cX5_drift 2 = .ok (.lconst 1, 1) := by decide +kernel
theorem dX5_drift_3 : decode cX5_drift 3 = .ok (.ldc2_w 196, 3) := by decide +kernel
theorem dX5_drift_6 : decode cX5_drift 6 = .ok (.invokestatic 53, 3) := by decide +kernel
theorem dX5_drift_9 : decode cX5_drift 9 = .ok (.ifCond .eq 13, 3) := by decide +kernel
theorem dX5_drift_12 : decode cX5_drift 12 = .ok (.iload_n 3, 1) := by decide +kernel
theorem dX5_drift_13 : decode cX5_drift 13 = .ok (.i2l, 1) := by decide +kernel
theorem dX5_drift_14 : decode cX5_drift 14 = .ok (.lconst 0, 1) := by decide +kernel
theorem dX5_drift_15 : decode cX5_drift 15 = .ok (.lconst 1, 1) := by decide +kernel
theorem dX5_drift_16 : decode cX5_drift 16 = .ok (.invokestatic 53, 3) := by decide +kernel
theorem dX5_drift_19 : decode cX5_drift 19 = .ok (.ifCond .ne 5, 3) := by decide +kernel
theorem dX5_drift_22 : decode cX5_drift 22 = .ok (.iconst (-1), 1) := by decide +kernel
theorem dX5_drift_23 : decode cX5_drift 23 = .ok (.ireturn, 1) := by decide +kernel
theorem dX5_drift_24 : decode cX5_drift 24 = .ok (.iload_n 1, 1) := by decide +kernel
theorem dX5_drift_25 : decode cX5_drift 25 = .ok (.istore 4, 2) := by decide +kernel
theorem dX5_drift_27 : decode cX5_drift 27 = .ok (.aload_n 0, 1) := by decide +kernel
theorem dX5_drift_28 : decode cX5_drift 28 = .ok (.getfield 7, 3) := by decide +kernel
theorem dX5_drift_31 : decode cX5_drift 31 = .ok (.bipush 41, 2) := by decide +kernel
theorem dX5_drift_33 : decode cX5_drift 33 = .ok (.iaload, 1) := by decide +kernel
theorem dX5_drift_34 : decode cX5_drift 34 = .ok (.istore 5, 2) := by decide +kernel
theorem dX5_drift_36 : decode cX5_drift 36 = .ok (.iconst 0, 1) := by decide +kernel
theorem dX5_drift_37 : decode cX5_drift 37 = .ok (.istore 6, 2) := by decide +kernel
theorem dX5_drift_39 : decode cX5_drift 39 = .ok (.iconst 0, 1) := by decide +kernel
theorem dX5_drift_40 : decode cX5_drift 40 = .ok (.istore 7, 2) := by decide +kernel
theorem dX5_drift_42 : decode cX5_drift 42 = .ok (.iload 7, 2) := by decide +kernel
theorem dX5_drift_44 : decode cX5_drift 44 = .ok (.iload_n 2, 1) := by decide +kernel
theorem dX5_drift_45 : decode cX5_drift 45 = .ok (.if_icmp .ge 64, 3) := by decide +kernel
theorem dX5_drift_48 : decode cX5_drift 48 = .ok (.iload 4, 2) := by decide +kernel
theorem dX5_drift_50 : decode cX5_drift 50 = .ok (.ldc 247, 2) := by decide +kernel
theorem dX5_drift_52 : decode cX5_drift 52 = .ok (.imul, 1) := by decide +kernel
theorem dX5_drift_53 : decode cX5_drift 53 = .ok (.sipush 12345, 3) := by decide +kernel
theorem dX5_drift_56 : decode cX5_drift 56 = .ok (.iadd, 1) := by decide +kernel
theorem dX5_drift_57 : decode cX5_drift 57 = .ok (.istore 4, 2) := by decide +kernel
theorem dX5_drift_59 : decode cX5_drift 59 = .ok (.aload_n 0, 1) := by decide +kernel
theorem dX5_drift_60 : decode cX5_drift 60 = .ok (.iload 5, 2) := by decide +kernel
theorem dX5_drift_62 : decode cX5_drift 62 = .ok (.iconst 1, 1) := by decide +kernel
theorem dX5_drift_63 : decode cX5_drift 63 = .ok (.iload 4, 2) := by decide +kernel
theorem dX5_drift_65 : decode cX5_drift 65 = .ok (.bipush 16, 2) := by decide +kernel
theorem dX5_drift_67 : decode cX5_drift 67 = .ok (.ishr, 1) := by decide +kernel
theorem dX5_drift_68 : decode cX5_drift 68 = .ok (.sipush 32767, 3) := by decide +kernel
theorem dX5_drift_71 : decode cX5_drift 71 = .ok (.iand, 1) := by decide +kernel
theorem dX5_drift_72 : decode cX5_drift 72 = .ok (.aload_n 0, 1) := by decide +kernel
theorem dX5_drift_73 : decode cX5_drift 73 = .ok (.getfield 13, 3) := by decide +kernel
theorem dX5_drift_76 : decode cX5_drift 76 = .ok (.irem, 1) := by decide +kernel
theorem dX5_drift_77 : decode cX5_drift 77 = .ok (.ishl, 1) := by decide +kernel
theorem dX5_drift_78 : decode cX5_drift 78 = .ok (.ixor, 1) := by decide +kernel
theorem dX5_drift_79 : decode cX5_drift 79 = .ok (.invokevirtual 162, 3) := by decide +kernel
theorem dX5_drift_82 : decode cX5_drift 82 = .ok (.istore 5, 2) := by decide +kernel
theorem dX5_drift_84 : decode cX5_drift 84 = .ok (.iload 6, 2) := by decide +kernel
theorem dX5_drift_86 : decode cX5_drift 86 = .ok (.aload_n 0, 1) := by decide +kernel
theorem dX5_drift_87 : decode cX5_drift 87 = .ok (.iload 5, 2) := by decide +kernel
theorem dX5_drift_89 : decode cX5_drift 89 = .ok (.invokevirtual 205, 3) := by decide +kernel
theorem dX5_drift_92 : decode cX5_drift 92 = .ok (.ifCond .eq 7, 3) := by decide +kernel
theorem dX5_drift_95 : decode cX5_drift 95 = .ok (.iconst 1, 1) := by decide +kernel
theorem dX5_drift_96 : decode cX5_drift 96 = .ok (.goto 4, 3) := by decide +kernel
theorem dX5_drift_99 : decode cX5_drift 99 = .ok (.iconst 0, 1) := by decide +kernel
theorem dX5_drift_100 : decode cX5_drift 100 = .ok (.iadd, 1) := by decide +kernel
theorem dX5_drift_101 : decode cX5_drift 101 = .ok (.istore 6, 2) := by decide +kernel
theorem dX5_drift_103 : decode cX5_drift 103 = .ok (.iinc 7 1, 3) := by decide +kernel
theorem dX5_drift_106 : decode cX5_drift 106 = .ok (.goto (-64), 3) := by decide +kernel
theorem dX5_drift_109 : decode cX5_drift 109 = .ok (.iload_n 3, 1) := by decide +kernel
theorem dX5_drift_110 : decode cX5_drift 110 = .ok (.ifCond .ne 8, 3) := by decide +kernel
theorem dX5_drift_113 : decode cX5_drift 113 = .ok (.iload 5, 2) := by decide +kernel
theorem dX5_drift_115 : decode cX5_drift 115 = .ok (.goto 5, 3) := by decide +kernel
theorem dX5_drift_118 : decode cX5_drift 118 = .ok (.iload 6, 2) := by decide +kernel
theorem dX5_drift_120 : decode cX5_drift 120 = .ok (.ireturn, 1) := by decide +kernel
theorem dX5_copies_0 : decode cX5_copies 0 = .ok (.iconst 0, 1) := by decide +kernel
theorem dX5_copies_1 : decode cX5_copies 1 = .ok (.istore_n 3, 1) := by decide +kernel
theorem dX5_copies_2 : decode cX5_copies 2 = .ok (.iload_n 3, 1) := by decide +kernel
theorem dX5_copies_3 : decode cX5_copies 3 = .ok (.bipush 43, 2) := by decide +kernel
theorem dX5_copies_5 : decode cX5_copies 5 = .ok (.if_icmp .ge 25, 3) := by decide +kernel
theorem dX5_copies_8 : decode cX5_copies 8 = .ok (.aload_n 0, 1) := by decide +kernel
theorem dX5_copies_9 : decode cX5_copies 9 = .ok (.getfield 7, 3) := by decide +kernel
theorem dX5_copies_12 : decode cX5_copies 12 = .ok (.iload_n 2, 1) := by decide +kernel
theorem dX5_copies_13 : decode cX5_copies 13 = .ok (.iload_n 3, 1) := by decide +kernel
theorem dX5_copies_14 : decode cX5_copies 14 = .ok (.iadd, 1) := by decide +kernel
theorem dX5_copies_15 : decode cX5_copies 15 = .ok (.aload_n 0, 1) := by decide +kernel
theorem dX5_copies_16 : decode cX5_copies 16 = .ok (.getfield 7, 3) := by decide +kernel
theorem dX5_copies_19 : decode cX5_copies 19 = .ok (.iload_n 1, 1) := by decide +kernel
theorem dX5_copies_20 : decode cX5_copies 20 = .ok (.iload_n 3, 1) := by decide +kernel
theorem dX5_copies_21 : decode cX5_copies 21 = .ok (.iadd, 1) := by decide +kernel
theorem dX5_copies_22 : decode cX5_copies 22 = .ok (.iaload, 1) := by decide +kernel
theorem dX5_copies_23 : decode cX5_copies 23 = .ok (.iastore, 1) := by decide +kernel
theorem dX5_copies_24 : decode cX5_copies 24 = .ok (.iinc 3 1, 3) := by decide +kernel
theorem dX5_copies_27 : decode cX5_copies 27 = .ok (.goto (-25), 3) := by decide +kernel
theorem dX5_copies_30 : decode cX5_copies 30 = .ok (.return_, 1) := by decide +kernel
theorem dX5_keep_0 : decode cX5_keep 0 = .ok (.iload_n 1, 1) := by decide +kernel
theorem dX5_keep_1 : decode cX5_keep 1 = .ok (.i2l, 1) := by decide +kernel
theorem dX5_keep_2 : decode cX5_keep 2 = .ok (.lconst 0, 1) := by decide +kernel
theorem dX5_keep_3 : decode cX5_keep 3 = .ok (.lconst 1, 1) := by decide +kernel
theorem dX5_keep_4 : decode cX5_keep 4 = .ok (.invokestatic 53, 3) := by decide +kernel
theorem dX5_keep_7 : decode cX5_keep 7 = .ok (.ifCond .ne 5, 3) := by decide +kernel
theorem dX5_keep_10 : decode cX5_keep 10 = .ok (.iconst (-1), 1) := by decide +kernel
theorem dX5_keep_11 : decode cX5_keep 11 = .ok (.ireturn, 1) := by decide +kernel
theorem dX5_keep_12 : decode cX5_keep 12 = .ok (.aload_n 0, 1) := by decide +kernel
theorem dX5_keep_13 : decode cX5_keep 13 = .ok (.iconst 0, 1) := by decide +kernel
theorem dX5_keep_14 : decode cX5_keep 14 = .ok (.bipush 43, 2) := by decide +kernel
theorem dX5_keep_16 : decode cX5_keep 16 = .ok (.iload_n 1, 1) := by decide +kernel
theorem dX5_keep_17 : decode cX5_keep 17 = .ok (.iconst 1, 1) := by decide +kernel
theorem dX5_keep_18 : decode cX5_keep 18 = .ok (.iadd, 1) := by decide +kernel
theorem dX5_keep_19 : decode cX5_keep 19 = .ok (.imul, 1) := by decide +kernel
theorem dX5_keep_20 : decode cX5_keep 20 = .ok (.invokevirtual 248, 3) := by decide +kernel
theorem dX5_keep_23 : decode cX5_keep 23 = .ok (.aload_n 0, 1) := by decide +kernel
theorem dX5_keep_24 : decode cX5_keep 24 = .ok (.getfield 38, 3) := by decide +kernel
theorem dX5_keep_27 : decode cX5_keep 27 = .ok (.iload_n 1, 1) := by decide +kernel
theorem dX5_keep_28 : decode cX5_keep 28 = .ok (.baload, 1) := by decide +kernel
theorem dX5_keep_29 : decode cX5_keep 29 = .ok (.ifCond .eq 7, 3) := by decide +kernel
theorem dX5_keep_32 : decode cX5_keep 32 = .ok (.iconst 1, 1) := by decide +kernel
theorem dX5_keep_33 : decode cX5_keep 33 = .ok (.goto 4, 3) := by decide +kernel
theorem dX5_keep_36 : decode cX5_keep 36 = .ok (.iconst 0, 1) := by decide +kernel
theorem dX5_keep_37 : decode cX5_keep 37 = .ok (.istore_n 2, 1) := by decide +kernel
theorem dX5_keep_38 : decode cX5_keep 38 = .ok (.aload_n 0, 1) := by decide +kernel
theorem dX5_keep_39 : decode cX5_keep 39 = .ok (.getfield 38, 3) := by decide +kernel
theorem dX5_keep_42 : decode cX5_keep 42 = .ok (.iload_n 1, 1) := by decide +kernel
theorem dX5_keep_43 : decode cX5_keep 43 = .ok (.iconst 1, 1) := by decide +kernel
theorem dX5_keep_44 : decode cX5_keep 44 = .ok (.bastore, 1) := by decide +kernel
theorem dX5_keep_45 : decode cX5_keep 45 = .ok (.iload_n 2, 1) := by decide +kernel
theorem dX5_keep_46 : decode cX5_keep 46 = .ok (.ireturn, 1) := by decide +kernel
theorem dX5_back_0 : decode cX5_back 0 = .ok (.iload_n 1, 1) := by decide +kernel
theorem dX5_back_1 : decode cX5_back 1 = .ok (.i2l, 1) := by decide +kernel
theorem dX5_back_2 : decode cX5_back 2 = .ok (.lconst 0, 1) := by decide +kernel
theorem dX5_back_3 : decode cX5_back 3 = .ok (.lconst 1, 1) := by decide +kernel
theorem dX5_back_4 : decode cX5_back 4 = .ok (.invokestatic 53, 3) := by decide +kernel
theorem dX5_back_7 : decode cX5_back 7 = .ok (.ifCond .ne 5, 3) := by decide +kernel
theorem dX5_back_10 : decode cX5_back 10 = .ok (.iconst (-1), 1) := by decide +kernel
theorem dX5_back_11 : decode cX5_back 11 = .ok (.ireturn, 1) := by decide +kernel
theorem dX5_back_12 : decode cX5_back 12 = .ok (.aload_n 0, 1) := by decide +kernel
theorem dX5_back_13 : decode cX5_back 13 = .ok (.getfield 38, 3) := by decide +kernel
theorem dX5_back_16 : decode cX5_back 16 = .ok (.iload_n 1, 1) := by decide +kernel
theorem dX5_back_17 : decode cX5_back 17 = .ok (.baload, 1) := by decide +kernel
theorem dX5_back_18 : decode cX5_back 18 = .ok (.ifCond .ne 6, 3) := by decide +kernel
theorem dX5_back_21 : decode cX5_back 21 = .ok (.bipush (-2), 2) := by decide +kernel
theorem dX5_back_23 : decode cX5_back 23 = .ok (.ireturn, 1) := by decide +kernel
theorem dX5_back_24 : decode cX5_back 24 = .ok (.aload_n 0, 1) := by decide +kernel
theorem dX5_back_25 : decode cX5_back 25 = .ok (.bipush 43, 2) := by decide +kernel
theorem dX5_back_27 : decode cX5_back 27 = .ok (.iload_n 1, 1) := by decide +kernel
theorem dX5_back_28 : decode cX5_back 28 = .ok (.iconst 1, 1) := by decide +kernel
theorem dX5_back_29 : decode cX5_back 29 = .ok (.iadd, 1) := by decide +kernel
theorem dX5_back_30 : decode cX5_back 30 = .ok (.imul, 1) := by decide +kernel
theorem dX5_back_31 : decode cX5_back 31 = .ok (.iconst 0, 1) := by decide +kernel
theorem dX5_back_32 : decode cX5_back 32 = .ok (.invokevirtual 248, 3) := by decide +kernel
theorem dX5_back_35 : decode cX5_back 35 = .ok (.aload_n 0, 1) := by decide +kernel
theorem dX5_back_36 : decode cX5_back 36 = .ok (.getfield 7, 3) := by decide +kernel
theorem dX5_back_39 : decode cX5_back 39 = .ok (.bipush 41, 2) := by decide +kernel
theorem dX5_back_41 : decode cX5_back 41 = .ok (.iaload, 1) := by decide +kernel
theorem dX5_back_42 : decode cX5_back 42 = .ok (.ireturn, 1) := by decide +kernel
theorem dX5_sheet_0 : decode cX5_sheet 0 = .ok (.iload_n 1, 1) := by decide +kernel
theorem dX5_sheet_1 : decode cX5_sheet 1 = .ok (.i2l, 1) := by decide +kernel
theorem dX5_sheet_2 : decode cX5_sheet 2 = .ok (.lconst 0, 1) := by decide +kernel
theorem dX5_sheet_3 : decode cX5_sheet 3 = .ok (.ldc2_w 242, 3) := by decide +kernel
theorem dX5_sheet_6 : decode cX5_sheet 6 = .ok (.invokestatic 53, 3) := by decide +kernel
theorem dX5_sheet_9 : decode cX5_sheet 9 = .ok (.ifCond .eq 21, 3) := by decide +kernel
theorem dX5_sheet_12 : decode cX5_sheet 12 = .ok (.iload_n 2, 1) := by decide +kernel
theorem dX5_sheet_13 : decode cX5_sheet 13 = .ok (.i2l, 1) := by decide +kernel
theorem dX5_sheet_14 : decode cX5_sheet 14 = .ok (.lconst 0, 1) := by decide +kernel
theorem dX5_sheet_15 : decode cX5_sheet 15 = .ok (.ldc2_w 153, 3) := by decide +kernel
theorem dX5_sheet_18 : decode cX5_sheet 18 = .ok (.invokestatic 53, 3) := by decide +kernel
theorem dX5_sheet_21 : decode cX5_sheet 21 = .ok (.ifCond .eq 9, 3) := by decide +kernel
theorem dX5_sheet_24 : decode cX5_sheet 24 = .ok (.iload_n 3, 1) := by decide +kernel
theorem dX5_sheet_25 : decode cX5_sheet 25 = .ok (.bipush 40, 2) := by decide +kernel
theorem dX5_sheet_27 : decode cX5_sheet 27 = .ok (.if_icmp .le 5, 3) := by decide +kernel
theorem dX5_sheet_30 : decode cX5_sheet 30 = .ok (.iconst (-1), 1) := by decide +kernel
theorem dX5_sheet_31 : decode cX5_sheet 31 = .ok (.ireturn, 1) := by decide +kernel
theorem dX5_sheet_32 : decode cX5_sheet 32 = .ok (.iload_n 3, 1) := by decide +kernel
theorem dX5_sheet_33 : decode cX5_sheet 33 = .ok (.ifCond .ge 6, 3) := by decide +kernel
theorem dX5_sheet_36 : decode cX5_sheet 36 = .ok (.bipush (-14), 2) := by decide +kernel
theorem dX5_sheet_38 : decode cX5_sheet 38 = .ok (.ireturn, 1) := by decide +kernel
theorem dX5_sheet_39 : decode cX5_sheet 39 = .ok (.aload_n 0, 1) := by decide +kernel
theorem dX5_sheet_40 : decode cX5_sheet 40 = .ok (.getfield 42, 3) := by decide +kernel
theorem dX5_sheet_43 : decode cX5_sheet 43 = .ok (.iload_n 1, 1) := by decide +kernel
theorem dX5_sheet_44 : decode cX5_sheet 44 = .ok (.iload_n 2, 1) := by decide +kernel
theorem dX5_sheet_45 : decode cX5_sheet 45 = .ok (.iastore, 1) := by decide +kernel
theorem dX5_sheet_46 : decode cX5_sheet 46 = .ok (.aload_n 0, 1) := by decide +kernel
theorem dX5_sheet_47 : decode cX5_sheet 47 = .ok (.getfield 45, 3) := by decide +kernel
theorem dX5_sheet_50 : decode cX5_sheet 50 = .ok (.iload_n 1, 1) := by decide +kernel
theorem dX5_sheet_51 : decode cX5_sheet 51 = .ok (.iload_n 3, 1) := by decide +kernel
theorem dX5_sheet_52 : decode cX5_sheet 52 = .ok (.iastore, 1) := by decide +kernel
theorem dX5_sheet_53 : decode cX5_sheet 53 = .ok (.iconst 0, 1) := by decide +kernel
theorem dX5_sheet_54 : decode cX5_sheet 54 = .ok (.istore 4, 2) := by decide +kernel
theorem dX5_sheet_56 : decode cX5_sheet 56 = .ok (.iload 4, 2) := by decide +kernel
theorem dX5_sheet_58 : decode cX5_sheet 58 = .ok (.bipush 40, 2) := by decide +kernel
theorem dX5_sheet_60 : decode cX5_sheet 60 = .ok (.if_icmp .ge 22, 3) := by decide +kernel
theorem dX5_sheet_63 : decode cX5_sheet 63 = .ok (.aload_n 0, 1) := by decide +kernel
theorem dX5_sheet_64 : decode cX5_sheet 64 = .ok (.getfield 48, 3) := by decide +kernel
theorem dX5_sheet_67 : decode cX5_sheet 67 = .ok (.bipush 40, 2) := by decide +kernel
theorem dX5_sheet_69 : decode cX5_sheet 69 = .ok (.iload_n 1, 1) := by decide +kernel
theorem dX5_sheet_70 : decode cX5_sheet 70 = .ok (.imul, 1) := by decide +kernel
theorem dX5_sheet_71 : decode cX5_sheet 71 = .ok (.iload 4, 2) := by decide +kernel
theorem dX5_sheet_73 : decode cX5_sheet 73 = .ok (.iadd, 1) := by decide +kernel
theorem dX5_sheet_74 : decode cX5_sheet 74 = .ok (.iconst 0, 1) := by decide +kernel
theorem dX5_sheet_75 : decode cX5_sheet 75 = .ok (.iastore, 1) := by decide +kernel
theorem dX5_sheet_76 : decode cX5_sheet 76 = .ok (.iinc 4 1, 3) := by decide +kernel
theorem dX5_sheet_79 : decode cX5_sheet 79 = .ok (.goto (-23), 3) := by decide +kernel
theorem dX5_sheet_82 : decode cX5_sheet 82 = .ok (.iconst 1, 1) := by decide +kernel
theorem dX5_sheet_83 : decode cX5_sheet 83 = .ok (.ireturn, 1) := by decide +kernel
theorem dX5_lay_0 : decode cX5_lay 0 = .ok (.iload_n 1, 1) := by decide +kernel
theorem dX5_lay_1 : decode cX5_lay 1 = .ok (.i2l, 1) := by decide +kernel
theorem dX5_lay_2 : decode cX5_lay 2 = .ok (.lconst 0, 1) := by decide +kernel
theorem dX5_lay_3 : decode cX5_lay 3 = .ok (.ldc2_w 242, 3) := by decide +kernel
theorem dX5_lay_6 : decode cX5_lay 6 = .ok (.invokestatic 53, 3) := by decide +kernel
theorem dX5_lay_9 : decode cX5_lay 9 = .ok (.ifCond .ne 5, 3) := by decide +kernel
theorem dX5_lay_12 : decode cX5_lay 12 = .ok (.iconst (-1), 1) := by decide +kernel
theorem dX5_lay_13 : decode cX5_lay 13 = .ok (.ireturn, 1) := by decide +kernel
theorem dX5_lay_14 : decode cX5_lay 14 = .ok (.aload_n 0, 1) := by decide +kernel
theorem dX5_lay_15 : decode cX5_lay 15 = .ok (.getfield 42, 3) := by decide +kernel
theorem dX5_lay_18 : decode cX5_lay 18 = .ok (.iload_n 1, 1) := by decide +kernel
theorem dX5_lay_19 : decode cX5_lay 19 = .ok (.iaload, 1) := by decide +kernel
theorem dX5_lay_20 : decode cX5_lay 20 = .ok (.bipush (-4), 2) := by decide +kernel
theorem dX5_lay_22 : decode cX5_lay 22 = .ok (.if_icmp .ne 6, 3) := by decide +kernel
theorem dX5_lay_25 : decode cX5_lay 25 = .ok (.bipush (-11), 2) := by decide +kernel
theorem dX5_lay_27 : decode cX5_lay 27 = .ok (.ireturn, 1) := by decide +kernel
theorem dX5_lay_28 : decode cX5_lay 28 = .ok (.iload_n 2, 1) := by decide +kernel
theorem dX5_lay_29 : decode cX5_lay 29 = .ok (.i2l, 1) := by decide +kernel
theorem dX5_lay_30 : decode cX5_lay 30 = .ok (.lconst 0, 1) := by decide +kernel
theorem dX5_lay_31 : decode cX5_lay 31 = .ok (.aload_n 0, 1) := by decide +kernel
theorem dX5_lay_32 : decode cX5_lay 32 = .ok (.getfield 45, 3) := by decide +kernel
theorem dX5_lay_35 : decode cX5_lay 35 = .ok (.iload_n 1, 1) := by decide +kernel
theorem dX5_lay_36 : decode cX5_lay 36 = .ok (.iaload, 1) := by decide +kernel
theorem dX5_lay_37 : decode cX5_lay 37 = .ok (.iconst 1, 1) := by decide +kernel
theorem dX5_lay_38 : decode cX5_lay 38 = .ok (.isub, 1) := by decide +kernel
theorem dX5_lay_39 : decode cX5_lay 39 = .ok (.i2l, 1) := by decide +kernel
theorem dX5_lay_40 : decode cX5_lay 40 = .ok (.invokestatic 53, 3) := by decide +kernel
theorem dX5_lay_43 : decode cX5_lay 43 = .ok (.ifCond .ne 6, 3) := by decide +kernel
theorem dX5_lay_46 : decode cX5_lay 46 = .ok (.bipush (-12), 2) := by decide +kernel
theorem dX5_lay_48 : decode cX5_lay 48 = .ok (.ireturn, 1) := by decide +kernel
theorem dX5_lay_49 : decode cX5_lay 49 = .ok (.aload_n 0, 1) := by decide +kernel
theorem dX5_lay_50 : decode cX5_lay 50 = .ok (.getfield 48, 3) := by decide +kernel
theorem dX5_lay_53 : decode cX5_lay 53 = .ok (.bipush 40, 2) := by decide +kernel
theorem dX5_lay_55 : decode cX5_lay 55 = .ok (.iload_n 1, 1) := by decide +kernel
theorem dX5_lay_56 : decode cX5_lay 56 = .ok (.imul, 1) := by decide +kernel
theorem dX5_lay_57 : decode cX5_lay 57 = .ok (.iload_n 2, 1) := by decide +kernel
theorem dX5_lay_58 : decode cX5_lay 58 = .ok (.iadd, 1) := by decide +kernel
theorem dX5_lay_59 : decode cX5_lay 59 = .ok (.aload_n 0, 1) := by decide +kernel
theorem dX5_lay_60 : decode cX5_lay 60 = .ok (.getfield 42, 3) := by decide +kernel
theorem dX5_lay_63 : decode cX5_lay 63 = .ok (.iload_n 1, 1) := by decide +kernel
theorem dX5_lay_64 : decode cX5_lay 64 = .ok (.iaload, 1) := by decide +kernel
theorem dX5_lay_65 : decode cX5_lay 65 = .ok (.ifCond .ne 13, 3) := by decide +kernel
theorem dX5_lay_68 : decode cX5_lay 68 = .ok (.iload_n 3, 1) := by decide +kernel
theorem dX5_lay_69 : decode cX5_lay 69 = .ok (.bipush 24, 2) := by decide +kernel
theorem dX5_lay_71 : decode cX5_lay 71 = .ok (.ishl, 1) := by decide +kernel
theorem dX5_lay_72 : decode cX5_lay 72 = .ok (.bipush 24, 2) := by decide +kernel
theorem dX5_lay_74 : decode cX5_lay 74 = .ok (.ishr, 1) := by decide +kernel
theorem dX5_lay_75 : decode cX5_lay 75 = .ok (.goto 24, 3) := by decide +kernel
theorem dX5_lay_78 : decode cX5_lay 78 = .ok (.aload_n 0, 1) := by decide +kernel
theorem dX5_lay_79 : decode cX5_lay 79 = .ok (.getfield 42, 3) := by decide +kernel
theorem dX5_lay_82 : decode cX5_lay 82 = .ok (.iload_n 1, 1) := by decide +kernel
theorem dX5_lay_83 : decode cX5_lay 83 = .ok (.iaload, 1) := by decide +kernel
theorem dX5_lay_84 : decode cX5_lay 84 = .ok (.iconst 1, 1) := by decide +kernel
theorem dX5_lay_85 : decode cX5_lay 85 = .ok (.if_icmp .ne 13, 3) := by decide +kernel
theorem dX5_lay_88 : decode cX5_lay 88 = .ok (.iload_n 3, 1) := by decide +kernel
theorem dX5_lay_89 : decode cX5_lay 89 = .ok (.bipush 16, 2) := by decide +kernel
theorem dX5_lay_91 : decode cX5_lay 91 = .ok (.ishl, 1) := by decide +kernel
theorem dX5_lay_92 : decode cX5_lay 92 = .ok (.bipush 16, 2) := by decide +kernel
theorem dX5_lay_94 : decode cX5_lay 94 = .ok (.ishr, 1) := by decide +kernel
theorem dX5_lay_95 : decode cX5_lay 95 = .ok (.goto 4, 3) := by decide +kernel
theorem dX5_lay_98 : decode cX5_lay 98 = .ok (.iload_n 3, 1) := by decide +kernel
theorem dX5_lay_99 : decode cX5_lay 99 = .ok (.iastore, 1) := by decide +kernel
theorem dX5_lay_100 : decode cX5_lay 100 = .ok (.iconst 1, 1) := by decide +kernel
theorem dX5_lay_101 : decode cX5_lay 101 = .ok (.ireturn, 1) := by decide +kernel
theorem dX5_read_0 : decode cX5_read 0 = .ok (.iload_n 1, 1) := by decide +kernel
theorem dX5_read_1 : decode cX5_read 1 = .ok (.i2l, 1) := by decide +kernel
theorem dX5_read_2 : decode cX5_read 2 = .ok (.lconst 0, 1) := by decide +kernel
theorem dX5_read_3 : decode cX5_read 3 = .ok (.ldc2_w 242, 3) := by decide +kernel
theorem dX5_read_6 : decode cX5_read 6 = .ok (.invokestatic 53, 3) := by decide +kernel
theorem dX5_read_9 : decode cX5_read 9 = .ok (.ifCond .eq 28, 3) := by decide +kernel
theorem dX5_read_12 : decode cX5_read 12 = .ok (.iload_n 2, 1) := by decide +kernel
theorem dX5_read_13 : decode cX5_read 13 = .ok (.i2l, 1) := by decide +kernel
theorem dX5_read_14 : decode cX5_read 14 = .ok (.lconst 0, 1) := by decide +kernel
theorem dX5_read_15 : decode cX5_read 15 = .ok (.ldc2_w 153, 3) := by decide +kernel
theorem dX5_read_18 : decode cX5_read 18 = .ok (.invokestatic 53, 3) := by decide +kernel
theorem dX5_read_21 : decode cX5_read 21 = .ok (.ifCond .eq 16, 3) := by decide +kernel
theorem dX5_read_24 : decode cX5_read 24 = .ok (.iload 4, 2) := by decide +kernel
theorem dX5_read_26 : decode cX5_read 26 = .ok (.i2l, 1) := by decide +kernel
theorem dX5_read_27 : decode cX5_read 27 = .ok (.lconst 0, 1) := by decide +kernel
theorem dX5_read_28 : decode cX5_read 28 = .ok (.ldc2_w 252, 3) := by decide +kernel
theorem dX5_read_31 : decode cX5_read 31 = .ok (.invokestatic 53, 3) := by decide +kernel
theorem dX5_read_34 : decode cX5_read 34 = .ok (.ifCond .ne 5, 3) := by decide +kernel
theorem dX5_read_37 : decode cX5_read 37 = .ok (.iconst (-1), 1) := by decide +kernel
theorem dX5_read_38 : decode cX5_read 38 = .ok (.ireturn, 1) := by decide +kernel
theorem dX5_read_39 : decode cX5_read 39 = .ok (.aload_n 0, 1) := by decide +kernel
theorem dX5_read_40 : decode cX5_read 40 = .ok (.iconst 0, 1) := by decide +kernel
theorem dX5_read_41 : decode cX5_read 41 = .ok (.sipush 129, 3) := by decide +kernel
theorem dX5_read_44 : decode cX5_read 44 = .ok (.invokevirtual 248, 3) := by decide +kernel
theorem dX5_read_47 : decode cX5_read 47 = .ok (.iconst 0, 1) := by decide +kernel
theorem dX5_read_48 : decode cX5_read 48 = .ok (.istore 5, 2) := by decide +kernel
theorem dX5_read_50 : decode cX5_read 50 = .ok (.iconst 0, 1) := by decide +kernel
theorem dX5_read_51 : decode cX5_read 51 = .ok (.istore 6, 2) := by decide +kernel
theorem dX5_read_53 : decode cX5_read 53 = .ok (.iconst 0, 1) := by decide +kernel
theorem dX5_read_54 : decode cX5_read 54 = .ok (.istore 7, 2) := by decide +kernel
theorem dX5_read_56 : decode cX5_read 56 = .ok (.iload 7, 2) := by decide +kernel
theorem dX5_read_58 : decode cX5_read 58 = .ok (.iconst 2, 1) := by decide +kernel
theorem dX5_read_59 : decode cX5_read 59 = .ok (.iload 4, 2) := by decide +kernel
theorem dX5_read_61 : decode cX5_read 61 = .ok (.imul, 1) := by decide +kernel
theorem dX5_read_62 : decode cX5_read 62 = .ok (.if_icmp .ge 161, 3) := by decide +kernel
theorem dX5_read_65 : decode cX5_read 65 = .ok (.iload 5, 2) := by decide +kernel
theorem dX5_read_67 : decode cX5_read 67 = .ok (.ifCond .ne 156, 3) := by decide +kernel
theorem dX5_read_70 : decode cX5_read 70 = .ok (.aload_n 0, 1) := by decide +kernel
theorem dX5_read_71 : decode cX5_read 71 = .ok (.getfield 42, 3) := by decide +kernel
theorem dX5_read_74 : decode cX5_read 74 = .ok (.iload_n 1, 1) := by decide +kernel
theorem dX5_read_75 : decode cX5_read 75 = .ok (.iaload, 1) := by decide +kernel
theorem dX5_read_76 : decode cX5_read 76 = .ok (.bipush (-4), 2) := by decide +kernel
theorem dX5_read_78 : decode cX5_read 78 = .ok (.if_icmp .ne 7, 3) := by decide +kernel
theorem dX5_read_81 : decode cX5_read 81 = .ok (.iconst 1, 1) := by decide +kernel
theorem dX5_read_82 : decode cX5_read 82 = .ok (.goto 44, 3) := by decide +kernel
theorem dX5_read_85 : decode cX5_read 85 = .ok (.aload_n 0, 1) := by decide +kernel
theorem dX5_read_86 : decode cX5_read 86 = .ok (.getfield 42, 3) := by decide +kernel
theorem dX5_read_89 : decode cX5_read 89 = .ok (.iload_n 1, 1) := by decide +kernel
theorem dX5_read_90 : decode cX5_read 90 = .ok (.iaload, 1) := by decide +kernel
theorem dX5_read_91 : decode cX5_read 91 = .ok (.iload_n 2, 1) := by decide +kernel
theorem dX5_read_92 : decode cX5_read 92 = .ok (.if_icmp .eq 7, 3) := by decide +kernel
theorem dX5_read_95 : decode cX5_read 95 = .ok (.iconst 3, 1) := by decide +kernel
theorem dX5_read_96 : decode cX5_read 96 = .ok (.goto 30, 3) := by decide +kernel
theorem dX5_read_99 : decode cX5_read 99 = .ok (.iload_n 3, 1) := by decide +kernel
theorem dX5_read_100 : decode cX5_read 100 = .ok (.i2l, 1) := by decide +kernel
theorem dX5_read_101 : decode cX5_read 101 = .ok (.iload 7, 2) := by decide +kernel
theorem dX5_read_103 : decode cX5_read 103 = .ok (.i2l, 1) := by decide +kernel
theorem dX5_read_104 : decode cX5_read 104 = .ok (.ladd, 1) := by decide +kernel
theorem dX5_read_105 : decode cX5_read 105 = .ok (.lconst 0, 1) := by decide +kernel
theorem dX5_read_106 : decode cX5_read 106 = .ok (.aload_n 0, 1) := by decide +kernel
theorem dX5_read_107 : decode cX5_read 107 = .ok (.getfield 45, 3) := by decide +kernel
theorem dX5_read_110 : decode cX5_read 110 = .ok (.iload_n 1, 1) := by decide +kernel
theorem dX5_read_111 : decode cX5_read 111 = .ok (.iaload, 1) := by decide +kernel
theorem dX5_read_112 : decode cX5_read 112 = .ok (.iconst 1, 1) := by decide +kernel
theorem dX5_read_113 : decode cX5_read 113 = .ok (.isub, 1) := by decide +kernel
theorem dX5_read_114 : decode cX5_read 114 = .ok (.i2l, 1) := by decide +kernel
theorem dX5_read_115 : decode cX5_read 115 = .ok (.invokestatic 53, 3) := by decide +kernel
theorem dX5_read_118 : decode cX5_read 118 = .ok (.ifCond .ne 7, 3) := by decide +kernel
theorem dX5_read_121 : decode cX5_read 121 = .ok (.iconst 2, 1) := by decide +kernel
theorem dX5_read_122 : decode cX5_read 122 = .ok (.goto 4, 3) := by decide +kernel
theorem dX5_read_125 : decode cX5_read 125 = .ok (.iconst 0, 1) := by decide +kernel
theorem dX5_read_126 : decode cX5_read 126 = .ok (.istore 5, 2) := by decide +kernel
theorem dX5_read_128 : decode cX5_read 128 = .ok (.iload 5, 2) := by decide +kernel
theorem dX5_read_130 : decode cX5_read 130 = .ok (.ifCond .ne 87, 3) := by decide +kernel
theorem dX5_read_133 : decode cX5_read 133 = .ok (.iload 7, 2) := by decide +kernel
theorem dX5_read_135 : decode cX5_read 135 = .ok (.iconst 2, 1) := by decide +kernel
theorem dX5_read_136 : decode cX5_read 136 = .ok (.irem, 1) := by decide +kernel
theorem dX5_read_137 : decode cX5_read 137 = .ok (.iconst 1, 1) := by decide +kernel
theorem dX5_read_138 : decode cX5_read 138 = .ok (.if_icmp .ne 79, 3) := by decide +kernel
theorem dX5_read_141 : decode cX5_read 141 = .ok (.bipush 40, 2) := by decide +kernel
theorem dX5_read_143 : decode cX5_read 143 = .ok (.iload_n 1, 1) := by decide +kernel
theorem dX5_read_144 : decode cX5_read 144 = .ok (.imul, 1) := by decide +kernel
theorem dX5_read_145 : decode cX5_read 145 = .ok (.iload_n 3, 1) := by decide +kernel
theorem dX5_read_146 : decode cX5_read 146 = .ok (.iadd, 1) := by decide +kernel
theorem dX5_read_147 : decode cX5_read 147 = .ok (.iload 7, 2) := by decide +kernel
theorem dX5_read_149 : decode cX5_read 149 = .ok (.iadd, 1) := by decide +kernel
theorem dX5_read_150 : decode cX5_read 150 = .ok (.istore 8, 2) := by decide +kernel
theorem dX5_read_152 : decode cX5_read 152 = .ok (.aload_n 0, 1) := by decide +kernel
theorem dX5_read_153 : decode cX5_read 153 = .ok (.getfield 48, 3) := by decide +kernel
theorem dX5_read_156 : decode cX5_read 156 = .ok (.iload 8, 2) := by decide +kernel
theorem dX5_read_158 : decode cX5_read 158 = .ok (.iaload, 1) := by decide +kernel
theorem dX5_read_159 : decode cX5_read 159 = .ok (.i2l, 1) := by decide +kernel
theorem dX5_read_160 : decode cX5_read 160 = .ok (.lconst 0, 1) := by decide +kernel
theorem dX5_read_161 : decode cX5_read 161 = .ok (.lconst 1, 1) := by decide +kernel
theorem dX5_read_162 : decode cX5_read 162 = .ok (.invokestatic 53, 3) := by decide +kernel
theorem dX5_read_165 : decode cX5_read 165 = .ok (.ifCond .eq 35, 3) := by decide +kernel
theorem dX5_read_168 : decode cX5_read 168 = .ok (.aload_n 0, 1) := by decide +kernel
theorem dX5_read_169 : decode cX5_read 169 = .ok (.aload_n 0, 1) := by decide +kernel
theorem dX5_read_170 : decode cX5_read 170 = .ok (.getfield 48, 3) := by decide +kernel
theorem dX5_read_173 : decode cX5_read 173 = .ok (.iload 8, 2) := by decide +kernel
theorem dX5_read_175 : decode cX5_read 175 = .ok (.iconst 1, 1) := by decide +kernel
theorem dX5_read_176 : decode cX5_read 176 = .ok (.isub, 1) := by decide +kernel
theorem dX5_read_177 : decode cX5_read 177 = .ok (.iaload, 1) := by decide +kernel
theorem dX5_read_178 : decode cX5_read 178 = .ok (.aload_n 0, 1) := by decide +kernel
theorem dX5_read_179 : decode cX5_read 179 = .ok (.getfield 48, 3) := by decide +kernel
theorem dX5_read_182 : decode cX5_read 182 = .ok (.iload 8, 2) := by decide +kernel
theorem dX5_read_184 : decode cX5_read 184 = .ok (.iaload, 1) := by decide +kernel
theorem dX5_read_185 : decode cX5_read 185 = .ok (.iconst 1, 1) := by decide +kernel
theorem dX5_read_186 : decode cX5_read 186 = .ok (.if_icmp .ne 7, 3) := by decide +kernel
theorem dX5_read_189 : decode cX5_read 189 = .ok (.iconst 1, 1) := by decide +kernel
theorem dX5_read_190 : decode cX5_read 190 = .ok (.goto 4, 3) := by decide +kernel
theorem dX5_read_193 : decode cX5_read 193 = .ok (.iconst 0, 1) := by decide +kernel
theorem dX5_read_194 : decode cX5_read 194 = .ok (.invokevirtual 178, 3) := by decide +kernel
theorem dX5_read_197 : decode cX5_read 197 = .ok (.ifCond .ge 17, 3) := by decide +kernel
theorem dX5_read_200 : decode cX5_read 200 = .ok (.aload_n 0, 1) := by decide +kernel
theorem dX5_read_201 : decode cX5_read 201 = .ok (.sipush 129, 3) := by decide +kernel
theorem dX5_read_204 : decode cX5_read 204 = .ok (.iconst 0, 1) := by decide +kernel
theorem dX5_read_205 : decode cX5_read 205 = .ok (.invokevirtual 248, 3) := by decide +kernel
theorem dX5_read_208 : decode cX5_read 208 = .ok (.bipush (-20), 2) := by decide +kernel
theorem dX5_read_210 : decode cX5_read 210 = .ok (.iload 6, 2) := by decide +kernel
theorem dX5_read_212 : decode cX5_read 212 = .ok (.isub, 1) := by decide +kernel
theorem dX5_read_213 : decode cX5_read 213 = .ok (.ireturn, 1) := by decide +kernel
theorem dX5_read_214 : decode cX5_read 214 = .ok (.iinc 6 1, 3) := by decide +kernel
theorem dX5_read_217 : decode cX5_read 217 = .ok (.iinc 7 1, 3) := by decide +kernel
theorem dX5_read_220 : decode cX5_read 220 = .ok (.goto (-164), 3) := by decide +kernel
theorem dX5_read_223 : decode cX5_read 223 = .ok (.aload_n 0, 1) := by decide +kernel
theorem dX5_read_224 : decode cX5_read 224 = .ok (.iload 5, 2) := by decide +kernel
theorem dX5_read_226 : decode cX5_read 226 = .ok (.putfield 254, 3) := by decide +kernel
theorem dX5_read_229 : decode cX5_read 229 = .ok (.iload 6, 2) := by decide +kernel
theorem dX5_read_231 : decode cX5_read 231 = .ok (.ireturn, 1) := by decide +kernel
theorem dX5_torn_0 : decode cX5_torn 0 = .ok (.aload_n 0, 1) := by decide +kernel
theorem dX5_torn_1 : decode cX5_torn 1 = .ok (.getfield 254, 3) := by decide +kernel
theorem dX5_torn_4 : decode cX5_torn 4 = .ok (.ireturn, 1) := by decide +kernel
theorem dX5_count_0 : decode cX5_count 0 = .ok (.iconst 0, 1) := by decide +kernel
theorem dX5_count_1 : decode cX5_count 1 = .ok (.istore_n 2, 1) := by decide +kernel
theorem dX5_count_2 : decode cX5_count 2 = .ok (.iconst 0, 1) := by decide +kernel
theorem dX5_count_3 : decode cX5_count 3 = .ok (.istore_n 3, 1) := by decide +kernel
theorem dX5_count_4 : decode cX5_count 4 = .ok (.iload_n 3, 1) := by decide +kernel
theorem dX5_count_5 : decode cX5_count 5 = .ok (.aload_n 0, 1) := by decide +kernel
theorem dX5_count_6 : decode cX5_count 6 = .ok (.getfield 7, 3) := by decide +kernel
theorem dX5_count_9 : decode cX5_count 9 = .ok (.bipush 38, 2) := by decide +kernel
theorem dX5_count_11 : decode cX5_count 11 = .ok (.iaload, 1) := by decide +kernel
theorem dX5_count_12 : decode cX5_count 12 = .ok (.if_icmp .ge 32, 3) := by decide +kernel
theorem dX5_count_15 : decode cX5_count 15 = .ok (.iload_n 2, 1) := by decide +kernel
theorem dX5_count_16 : decode cX5_count 16 = .ok (.aload_n 0, 1) := by decide +kernel
theorem dX5_count_17 : decode cX5_count 17 = .ok (.iload_n 3, 1) := by decide +kernel
theorem dX5_count_18 : decode cX5_count 18 = .ok (.aload_n 0, 1) := by decide +kernel
theorem dX5_count_19 : decode cX5_count 19 = .ok (.getfield 7, 3) := by decide +kernel
theorem dX5_count_22 : decode cX5_count 22 = .ok (.bipush 41, 2) := by decide +kernel
theorem dX5_count_24 : decode cX5_count 24 = .ok (.iaload, 1) := by decide +kernel
theorem dX5_count_25 : decode cX5_count 25 = .ok (.invokevirtual 155, 3) := by decide +kernel
theorem dX5_count_28 : decode cX5_count 28 = .ok (.ifCond .eq 7, 3) := by decide +kernel
theorem dX5_count_31 : decode cX5_count 31 = .ok (.iconst 1, 1) := by decide +kernel
theorem dX5_count_32 : decode cX5_count 32 = .ok (.goto 4, 3) := by decide +kernel
theorem dX5_count_35 : decode cX5_count 35 = .ok (.iconst 0, 1) := by decide +kernel
theorem dX5_count_36 : decode cX5_count 36 = .ok (.iadd, 1) := by decide +kernel
theorem dX5_count_37 : decode cX5_count 37 = .ok (.istore_n 2, 1) := by decide +kernel
theorem dX5_count_38 : decode cX5_count 38 = .ok (.iinc 3 1, 3) := by decide +kernel
theorem dX5_count_41 : decode cX5_count 41 = .ok (.goto (-37), 3) := by decide +kernel
theorem dX5_count_44 : decode cX5_count 44 = .ok (.iload_n 1, 1) := by decide +kernel
theorem dX5_count_45 : decode cX5_count 45 = .ok (.tableswitch 115 0 5 #[39, 44, 74, 79, 102, 113], 39) := by decide +kernel
theorem dX5_count_84 : decode cX5_count 84 = .ok (.aload_n 0, 1) := by decide +kernel
theorem dX5_count_85 : decode cX5_count 85 = .ok (.getfield 147, 3) := by decide +kernel
theorem dX5_count_88 : decode cX5_count 88 = .ok (.ireturn, 1) := by decide +kernel
theorem dX5_count_89 : decode cX5_count 89 = .ok (.aload_n 0, 1) := by decide +kernel
theorem dX5_count_90 : decode cX5_count 90 = .ok (.getfield 38, 3) := by decide +kernel
theorem dX5_count_93 : decode cX5_count 93 = .ok (.iconst 0, 1) := by decide +kernel
theorem dX5_count_94 : decode cX5_count 94 = .ok (.baload, 1) := by decide +kernel
theorem dX5_count_95 : decode cX5_count 95 = .ok (.ifCond .eq 7, 3) := by decide +kernel
theorem dX5_count_98 : decode cX5_count 98 = .ok (.iconst 1, 1) := by decide +kernel
theorem dX5_count_99 : decode cX5_count 99 = .ok (.goto 4, 3) := by decide +kernel
theorem dX5_count_102 : decode cX5_count 102 = .ok (.iconst 0, 1) := by decide +kernel
theorem dX5_count_103 : decode cX5_count 103 = .ok (.aload_n 0, 1) := by decide +kernel
theorem dX5_count_104 : decode cX5_count 104 = .ok (.getfield 38, 3) := by decide +kernel
theorem dX5_count_107 : decode cX5_count 107 = .ok (.iconst 1, 1) := by decide +kernel
theorem dX5_count_108 : decode cX5_count 108 = .ok (.baload, 1) := by decide +kernel
theorem dX5_count_109 : decode cX5_count 109 = .ok (.ifCond .eq 7, 3) := by decide +kernel
theorem dX5_count_112 : decode cX5_count 112 = .ok (.iconst 1, 1) := by decide +kernel
theorem dX5_count_113 : decode cX5_count 113 = .ok (.goto 4, 3) := by decide +kernel
theorem dX5_count_116 : decode cX5_count 116 = .ok (.iconst 0, 1) := by decide +kernel
theorem dX5_count_117 : decode cX5_count 117 = .ok (.iadd, 1) := by decide +kernel
theorem dX5_count_118 : decode cX5_count 118 = .ok (.ireturn, 1) := by decide +kernel
theorem dX5_count_119 : decode cX5_count 119 = .ok (.aload_n 0, 1) := by decide +kernel
theorem dX5_count_120 : decode cX5_count 120 = .ok (.getfield 57, 3) := by decide +kernel
theorem dX5_count_123 : decode cX5_count 123 = .ok (.ireturn, 1) := by decide +kernel
theorem dX5_count_124 : decode cX5_count 124 = .ok (.aload_n 0, 1) := by decide +kernel
theorem dX5_count_125 : decode cX5_count 125 = .ok (.getfield 42, 3) := by decide +kernel
theorem dX5_count_128 : decode cX5_count 128 = .ok (.iconst 0, 1) := by decide +kernel
theorem dX5_count_129 : decode cX5_count 129 = .ok (.iaload, 1) := by decide +kernel
theorem dX5_count_130 : decode cX5_count 130 = .ok (.bipush (-4), 2) := by decide +kernel
theorem dX5_count_132 : decode cX5_count 132 = .ok (.if_icmp .ne 8, 3) := by decide +kernel
theorem dX5_count_135 : decode cX5_count 135 = .ok (.bipush (-4), 2) := by decide +kernel
theorem dX5_count_137 : decode cX5_count 137 = .ok (.goto 9, 3) := by decide +kernel
theorem dX5_count_140 : decode cX5_count 140 = .ok (.aload_n 0, 1) := by decide +kernel
theorem dX5_count_141 : decode cX5_count 141 = .ok (.getfield 45, 3) := by decide +kernel
theorem dX5_count_144 : decode cX5_count 144 = .ok (.iconst 0, 1) := by decide +kernel
theorem dX5_count_145 : decode cX5_count 145 = .ok (.iaload, 1) := by decide +kernel
theorem dX5_count_146 : decode cX5_count 146 = .ok (.ireturn, 1) := by decide +kernel
theorem dX5_count_147 : decode cX5_count 147 = .ok (.aload_n 0, 1) := by decide +kernel
theorem dX5_count_148 : decode cX5_count 148 = .ok (.getfield 7, 3) := by decide +kernel
theorem dX5_count_151 : decode cX5_count 151 = .ok (.bipush 41, 2) := by decide +kernel
theorem dX5_count_153 : decode cX5_count 153 = .ok (.iaload, 1) := by decide +kernel
theorem dX5_count_154 : decode cX5_count 154 = .ok (.invokestatic 220, 3) := by decide +kernel
theorem dX5_count_157 : decode cX5_count 157 = .ok (.ireturn, 1) := by decide +kernel
theorem dX5_count_158 : decode cX5_count 158 = .ok (.iload_n 2, 1) := by decide +kernel
theorem dX5_count_159 : decode cX5_count 159 = .ok (.ireturn, 1) := by decide +kernel
theorem dX5_count_160 : decode cX5_count 160 = .ok (.iconst (-1), 1) := by decide +kernel
theorem dX5_count_161 : decode cX5_count 161 = .ok (.ireturn, 1) := by decide +kernel
theorem dJ6_bitCount_0f7a4_0 : decode cJ6_bitCount_0f7a4 0 = .ok (.iload_n 0, 1) := by decide +kernel
theorem dJ6_bitCount_0f7a4_1 : decode cJ6_bitCount_0f7a4 1 = .ok (.iload_n 0, 1) := by decide +kernel
theorem dJ6_bitCount_0f7a4_2 : decode cJ6_bitCount_0f7a4 2 = .ok (.iconst 1, 1) := by decide +kernel
theorem dJ6_bitCount_0f7a4_3 : decode cJ6_bitCount_0f7a4 3 = .ok (.iushr, 1) := by decide +kernel
theorem dJ6_bitCount_0f7a4_4 : decode cJ6_bitCount_0f7a4 4 = .ok (.ldc_w 265, 3) := by decide +kernel
theorem dJ6_bitCount_0f7a4_7 : decode cJ6_bitCount_0f7a4 7 = .ok (.iand, 1) := by decide +kernel
theorem dJ6_bitCount_0f7a4_8 : decode cJ6_bitCount_0f7a4 8 = .ok (.isub, 1) := by decide +kernel
theorem dJ6_bitCount_0f7a4_9 : decode cJ6_bitCount_0f7a4 9 = .ok (.istore_n 0, 1) := by decide +kernel
theorem dJ6_bitCount_0f7a4_10 : decode cJ6_bitCount_0f7a4 10 = .ok (.iload_n 0, 1) := by decide +kernel
theorem dJ6_bitCount_0f7a4_11 : decode cJ6_bitCount_0f7a4 11 = .ok (.ldc_w 266, 3) := by decide +kernel
theorem dJ6_bitCount_0f7a4_14 : decode cJ6_bitCount_0f7a4 14 = .ok (.iand, 1) := by decide +kernel
theorem dJ6_bitCount_0f7a4_15 : decode cJ6_bitCount_0f7a4 15 = .ok (.iload_n 0, 1) := by decide +kernel
theorem dJ6_bitCount_0f7a4_16 : decode cJ6_bitCount_0f7a4 16 = .ok (.iconst 2, 1) := by decide +kernel
theorem dJ6_bitCount_0f7a4_17 : decode cJ6_bitCount_0f7a4 17 = .ok (.iushr, 1) := by decide +kernel
theorem dJ6_bitCount_0f7a4_18 : decode cJ6_bitCount_0f7a4 18 = .ok (.ldc_w 266, 3) := by decide +kernel
theorem dJ6_bitCount_0f7a4_21 : decode cJ6_bitCount_0f7a4 21 = .ok (.iand, 1) := by decide +kernel
theorem dJ6_bitCount_0f7a4_22 : decode cJ6_bitCount_0f7a4 22 = .ok (.iadd, 1) := by decide +kernel
theorem dJ6_bitCount_0f7a4_23 : decode cJ6_bitCount_0f7a4 23 = .ok (.istore_n 0, 1) := by decide +kernel
theorem dJ6_bitCount_0f7a4_24 : decode cJ6_bitCount_0f7a4 24 = .ok (.iload_n 0, 1) := by decide +kernel
theorem dJ6_bitCount_0f7a4_25 : decode cJ6_bitCount_0f7a4 25 = .ok (.iload_n 0, 1) := by decide +kernel
theorem dJ6_bitCount_0f7a4_26 : decode cJ6_bitCount_0f7a4 26 = .ok (.iconst 4, 1) := by decide +kernel
theorem dJ6_bitCount_0f7a4_27 : decode cJ6_bitCount_0f7a4 27 = .ok (.iushr, 1) := by decide +kernel
theorem dJ6_bitCount_0f7a4_28 : decode cJ6_bitCount_0f7a4 28 = .ok (.iadd, 1) := by decide +kernel
theorem dJ6_bitCount_0f7a4_29 : decode cJ6_bitCount_0f7a4 29 = .ok (.ldc_w 267, 3) := by decide +kernel
theorem dJ6_bitCount_0f7a4_32 : decode cJ6_bitCount_0f7a4 32 = .ok (.iand, 1) := by decide +kernel
theorem dJ6_bitCount_0f7a4_33 : decode cJ6_bitCount_0f7a4 33 = .ok (.istore_n 0, 1) := by decide +kernel
theorem dJ6_bitCount_0f7a4_34 : decode cJ6_bitCount_0f7a4 34 = .ok (.iload_n 0, 1) := by decide +kernel
theorem dJ6_bitCount_0f7a4_35 : decode cJ6_bitCount_0f7a4 35 = .ok (.iload_n 0, 1) := by decide +kernel
theorem dJ6_bitCount_0f7a4_36 : decode cJ6_bitCount_0f7a4 36 = .ok (.bipush 8, 2) := by decide +kernel
theorem dJ6_bitCount_0f7a4_38 : decode cJ6_bitCount_0f7a4 38 = .ok (.iushr, 1) := by decide +kernel
theorem dJ6_bitCount_0f7a4_39 : decode cJ6_bitCount_0f7a4 39 = .ok (.iadd, 1) := by decide +kernel
theorem dJ6_bitCount_0f7a4_40 : decode cJ6_bitCount_0f7a4 40 = .ok (.istore_n 0, 1) := by decide +kernel
theorem dJ6_bitCount_0f7a4_41 : decode cJ6_bitCount_0f7a4 41 = .ok (.iload_n 0, 1) := by decide +kernel
theorem dJ6_bitCount_0f7a4_42 : decode cJ6_bitCount_0f7a4 42 = .ok (.iload_n 0, 1) := by decide +kernel
theorem dJ6_bitCount_0f7a4_43 : decode cJ6_bitCount_0f7a4 43 = .ok (.bipush 16, 2) := by decide +kernel
theorem dJ6_bitCount_0f7a4_45 : decode cJ6_bitCount_0f7a4 45 = .ok (.iushr, 1) := by decide +kernel
theorem dJ6_bitCount_0f7a4_46 : decode cJ6_bitCount_0f7a4 46 = .ok (.iadd, 1) := by decide +kernel
theorem dJ6_bitCount_0f7a4_47 : decode cJ6_bitCount_0f7a4 47 = .ok (.istore_n 0, 1) := by decide +kernel
theorem dJ6_bitCount_0f7a4_48 : decode cJ6_bitCount_0f7a4 48 = .ok (.iload_n 0, 1) := by decide +kernel
theorem dJ6_bitCount_0f7a4_49 : decode cJ6_bitCount_0f7a4 49 = .ok (.bipush 63, 2) := by decide +kernel
theorem dJ6_bitCount_0f7a4_51 : decode cJ6_bitCount_0f7a4 51 = .ok (.iand, 1) := by decide +kernel
theorem dJ6_bitCount_0f7a4_52 : decode cJ6_bitCount_0f7a4 52 = .ok (.ireturn, 1) := by decide +kernel
theorem dJ13_bitCount_95d88_0 : decode cJ13_bitCount_95d88 0 = .ok (.lload_n 0, 1) := by decide +kernel
theorem dJ13_bitCount_95d88_1 : decode cJ13_bitCount_95d88 1 = .ok (.lload_n 0, 1) := by decide +kernel
theorem dJ13_bitCount_95d88_2 : decode cJ13_bitCount_95d88 2 = .ok (.iconst 1, 1) := by decide +kernel
theorem dJ13_bitCount_95d88_3 : decode cJ13_bitCount_95d88 3 = .ok (.lushr, 1) := by decide +kernel
theorem dJ13_bitCount_95d88_4 : decode cJ13_bitCount_95d88 4 = .ok (.ldc2_w 314, 3) := by decide +kernel
theorem dJ13_bitCount_95d88_7 : decode cJ13_bitCount_95d88 7 = .ok (.land, 1) := by decide +kernel
theorem dJ13_bitCount_95d88_8 : decode cJ13_bitCount_95d88 8 = .ok (.lsub, 1) := by decide +kernel
theorem dJ13_bitCount_95d88_9 : decode cJ13_bitCount_95d88 9 = .ok (.lstore_n 0, 1) := by decide +kernel
theorem dJ13_bitCount_95d88_10 : decode cJ13_bitCount_95d88 10 = .ok (.lload_n 0, 1) := by decide +kernel
theorem dJ13_bitCount_95d88_11 : decode cJ13_bitCount_95d88 11 = .ok (.ldc2_w 316, 3) := by decide +kernel
theorem dJ13_bitCount_95d88_14 : decode cJ13_bitCount_95d88 14 = .ok (.land, 1) := by decide +kernel
theorem dJ13_bitCount_95d88_15 : decode cJ13_bitCount_95d88 15 = .ok (.lload_n 0, 1) := by decide +kernel
theorem dJ13_bitCount_95d88_16 : decode cJ13_bitCount_95d88 16 = .ok (.iconst 2, 1) := by decide +kernel
theorem dJ13_bitCount_95d88_17 : decode cJ13_bitCount_95d88 17 = .ok (.lushr, 1) := by decide +kernel
theorem dJ13_bitCount_95d88_18 : decode cJ13_bitCount_95d88 18 = .ok (.ldc2_w 316, 3) := by decide +kernel
theorem dJ13_bitCount_95d88_21 : decode cJ13_bitCount_95d88 21 = .ok (.land, 1) := by decide +kernel
theorem dJ13_bitCount_95d88_22 : decode cJ13_bitCount_95d88 22 = .ok (.ladd, 1) := by decide +kernel
theorem dJ13_bitCount_95d88_23 : decode cJ13_bitCount_95d88 23 = .ok (.lstore_n 0, 1) := by decide +kernel
theorem dJ13_bitCount_95d88_24 : decode cJ13_bitCount_95d88 24 = .ok (.lload_n 0, 1) := by decide +kernel
theorem dJ13_bitCount_95d88_25 : decode cJ13_bitCount_95d88 25 = .ok (.lload_n 0, 1) := by decide +kernel
theorem dJ13_bitCount_95d88_26 : decode cJ13_bitCount_95d88 26 = .ok (.iconst 4, 1) := by decide +kernel
theorem dJ13_bitCount_95d88_27 : decode cJ13_bitCount_95d88 27 = .ok (.lushr, 1) := by decide +kernel
theorem dJ13_bitCount_95d88_28 : decode cJ13_bitCount_95d88 28 = .ok (.ladd, 1) := by decide +kernel
theorem dJ13_bitCount_95d88_29 : decode cJ13_bitCount_95d88 29 = .ok (.ldc2_w 318, 3) := by decide +kernel
theorem dJ13_bitCount_95d88_32 : decode cJ13_bitCount_95d88 32 = .ok (.land, 1) := by decide +kernel
theorem dJ13_bitCount_95d88_33 : decode cJ13_bitCount_95d88 33 = .ok (.lstore_n 0, 1) := by decide +kernel
theorem dJ13_bitCount_95d88_34 : decode cJ13_bitCount_95d88 34 = .ok (.lload_n 0, 1) := by decide +kernel
theorem dJ13_bitCount_95d88_35 : decode cJ13_bitCount_95d88 35 = .ok (.lload_n 0, 1) := by decide +kernel
theorem dJ13_bitCount_95d88_36 : decode cJ13_bitCount_95d88 36 = .ok (.bipush 8, 2) := by decide +kernel
theorem dJ13_bitCount_95d88_38 : decode cJ13_bitCount_95d88 38 = .ok (.lushr, 1) := by decide +kernel
theorem dJ13_bitCount_95d88_39 : decode cJ13_bitCount_95d88 39 = .ok (.ladd, 1) := by decide +kernel
theorem dJ13_bitCount_95d88_40 : decode cJ13_bitCount_95d88 40 = .ok (.lstore_n 0, 1) := by decide +kernel
theorem dJ13_bitCount_95d88_41 : decode cJ13_bitCount_95d88 41 = .ok (.lload_n 0, 1) := by decide +kernel
theorem dJ13_bitCount_95d88_42 : decode cJ13_bitCount_95d88 42 = .ok (.lload_n 0, 1) := by decide +kernel
theorem dJ13_bitCount_95d88_43 : decode cJ13_bitCount_95d88 43 = .ok (.bipush 16, 2) := by decide +kernel
theorem dJ13_bitCount_95d88_45 : decode cJ13_bitCount_95d88 45 = .ok (.lushr, 1) := by decide +kernel
theorem dJ13_bitCount_95d88_46 : decode cJ13_bitCount_95d88 46 = .ok (.ladd, 1) := by decide +kernel
theorem dJ13_bitCount_95d88_47 : decode cJ13_bitCount_95d88 47 = .ok (.lstore_n 0, 1) := by decide +kernel
theorem dJ13_bitCount_95d88_48 : decode cJ13_bitCount_95d88 48 = .ok (.lload_n 0, 1) := by decide +kernel
theorem dJ13_bitCount_95d88_49 : decode cJ13_bitCount_95d88 49 = .ok (.lload_n 0, 1) := by decide +kernel
theorem dJ13_bitCount_95d88_50 : decode cJ13_bitCount_95d88 50 = .ok (.bipush 32, 2) := by decide +kernel
theorem dJ13_bitCount_95d88_52 : decode cJ13_bitCount_95d88 52 = .ok (.lushr, 1) := by decide +kernel
theorem dJ13_bitCount_95d88_53 : decode cJ13_bitCount_95d88 53 = .ok (.ladd, 1) := by decide +kernel
theorem dJ13_bitCount_95d88_54 : decode cJ13_bitCount_95d88 54 = .ok (.lstore_n 0, 1) := by decide +kernel
theorem dJ13_bitCount_95d88_55 : decode cJ13_bitCount_95d88 55 = .ok (.lload_n 0, 1) := by decide +kernel
theorem dJ13_bitCount_95d88_56 : decode cJ13_bitCount_95d88 56 = .ok (.l2i, 1) := by decide +kernel
theorem dJ13_bitCount_95d88_57 : decode cJ13_bitCount_95d88 57 = .ok (.bipush 127, 2) := by decide +kernel
theorem dJ13_bitCount_95d88_59 : decode cJ13_bitCount_95d88 59 = .ok (.iand, 1) := by decide +kernel
theorem dJ13_bitCount_95d88_60 : decode cJ13_bitCount_95d88 60 = .ok (.ireturn, 1) := by decide +kernel
theorem dJ9_max_7cf53_0 : decode cJ9_max_7cf53 0 = .ok (.iload_n 0, 1) := by decide +kernel
theorem dJ9_max_7cf53_1 : decode cJ9_max_7cf53 1 = .ok (.iload_n 1, 1) := by decide +kernel
theorem dJ9_max_7cf53_2 : decode cJ9_max_7cf53 2 = .ok (.if_icmp .lt 7, 3) := by decide +kernel
theorem dJ9_max_7cf53_5 : decode cJ9_max_7cf53 5 = .ok (.iload_n 0, 1) := by decide +kernel
theorem dJ9_max_7cf53_6 : decode cJ9_max_7cf53 6 = .ok (.goto 4, 3) := by decide +kernel
theorem dJ9_max_7cf53_9 : decode cJ9_max_7cf53 9 = .ok (.iload_n 1, 1) := by decide +kernel
theorem dJ9_max_7cf53_10 : decode cJ9_max_7cf53 10 = .ok (.ireturn, 1) := by decide +kernel
theorem dJ0_length_8abf5_0 : decode cJ0_length_8abf5 0 = .ok (.aload_n 0, 1) := by decide +kernel
theorem dJ0_length_8abf5_1 : decode cJ0_length_8abf5 1 = .ok (.getfield 9, 3) := by decide +kernel
theorem dJ0_length_8abf5_4 : decode cJ0_length_8abf5 4 = .ok (.arraylength, 1) := by decide +kernel
theorem dJ0_length_8abf5_5 : decode cJ0_length_8abf5 5 = .ok (.aload_n 0, 1) := by decide +kernel
theorem dJ0_length_8abf5_6 : decode cJ0_length_8abf5 6 = .ok (.invokevirtual 335, 3) := by decide +kernel
theorem dJ0_length_8abf5_9 : decode cJ0_length_8abf5 9 = .ok (.ishr, 1) := by decide +kernel
theorem dJ0_length_8abf5_10 : decode cJ0_length_8abf5 10 = .ok (.ireturn, 1) := by decide +kernel
theorem dJ0_charAt_5068e_0 : decode cJ0_charAt_5068e 0 = .ok (.aload_n 0, 1) := by decide +kernel
theorem dJ0_charAt_5068e_1 : decode cJ0_charAt_5068e 1 = .ok (.invokevirtual 492, 3) := by decide +kernel
theorem dJ0_charAt_5068e_4 : decode cJ0_charAt_5068e 4 = .ok (.ifCond .eq 12, 3) := by decide +kernel
theorem dJ0_charAt_5068e_7 : decode cJ0_charAt_5068e 7 = .ok (.aload_n 0, 1) := by decide +kernel
theorem dJ0_charAt_5068e_8 : decode cJ0_charAt_5068e 8 = .ok (.getfield 9, 3) := by decide +kernel
theorem dJ0_charAt_5068e_11 : decode cJ0_charAt_5068e 11 = .ok (.iload_n 1, 1) := by decide +kernel
theorem dJ0_charAt_5068e_12 : decode cJ0_charAt_5068e 12 = .ok (.invokestatic 495, 3) := by decide +kernel
theorem dJ0_charAt_5068e_15 : decode cJ0_charAt_5068e 15 = .ok (.ireturn, 1) := by decide +kernel
theorem dJ0_charAt_5068e_16 : decode cJ0_charAt_5068e 16 = .ok (.aload_n 0, 1) := by decide +kernel
theorem dJ0_charAt_5068e_17 : decode cJ0_charAt_5068e 17 = .ok (.getfield 9, 3) := by decide +kernel
theorem dJ0_charAt_5068e_20 : decode cJ0_charAt_5068e 20 = .ok (.iload_n 1, 1) := by decide +kernel
theorem dJ0_charAt_5068e_21 : decode cJ0_charAt_5068e 21 = .ok (.invokestatic 498, 3) := by decide +kernel
theorem dJ0_charAt_5068e_24 : decode cJ0_charAt_5068e 24 = .ok (.ireturn, 1) := by decide +kernel
theorem dJ0_coder_7d493_0 : decode cJ0_coder_7d493 0 = .ok (.getstatic 38, 3) := by decide +kernel
theorem dJ0_coder_7d493_3 : decode cJ0_coder_7d493 3 = .ok (.ifCond .eq 10, 3) := by decide +kernel
theorem dJ0_coder_7d493_6 : decode cJ0_coder_7d493 6 = .ok (.aload_n 0, 1) := by decide +kernel
theorem dJ0_coder_7d493_7 : decode cJ0_coder_7d493 7 = .ok (.getfield 15, 3) := by decide +kernel
theorem dJ0_coder_7d493_10 : decode cJ0_coder_7d493 10 = .ok (.goto 4, 3) := by decide +kernel
theorem dJ0_coder_7d493_13 : decode cJ0_coder_7d493 13 = .ok (.iconst 1, 1) := by decide +kernel
theorem dJ0_coder_7d493_14 : decode cJ0_coder_7d493 14 = .ok (.ireturn, 1) := by decide +kernel
theorem dJ0_isLatin1_aae02_0 : decode cJ0_isLatin1_aae02 0 = .ok (.getstatic 38, 3) := by decide +kernel
theorem dJ0_isLatin1_aae02_3 : decode cJ0_isLatin1_aae02 3 = .ok (.ifCond .eq 14, 3) := by decide +kernel
theorem dJ0_isLatin1_aae02_6 : decode cJ0_isLatin1_aae02 6 = .ok (.aload_n 0, 1) := by decide +kernel
theorem dJ0_isLatin1_aae02_7 : decode cJ0_isLatin1_aae02 7 = .ok (.getfield 15, 3) := by decide +kernel
theorem dJ0_isLatin1_aae02_10 : decode cJ0_isLatin1_aae02 10 = .ok (.ifCond .ne 7, 3) := by decide +kernel
theorem dJ0_isLatin1_aae02_13 : decode cJ0_isLatin1_aae02 13 = .ok (.iconst 1, 1) := by decide +kernel
theorem dJ0_isLatin1_aae02_14 : decode cJ0_isLatin1_aae02 14 = .ok (.goto 4, 3) := by decide +kernel
theorem dJ0_isLatin1_aae02_17 : decode cJ0_isLatin1_aae02 17 = .ok (.iconst 0, 1) := by decide +kernel
theorem dJ0_isLatin1_aae02_18 : decode cJ0_isLatin1_aae02 18 = .ok (.ireturn, 1) := by decide +kernel
theorem dJ0_checkIndex_df160_0 : decode cJ0_checkIndex_df160 0 = .ok (.iload_n 0, 1) := by decide +kernel
theorem dJ0_checkIndex_df160_1 : decode cJ0_checkIndex_df160 1 = .ok (.iload_n 1, 1) := by decide +kernel
theorem dJ0_checkIndex_df160_2 : decode cJ0_checkIndex_df160 2 = .ok (.getstatic 1053, 3) := by decide +kernel
theorem dJ0_checkIndex_df160_5 : decode cJ0_checkIndex_df160 5 = .ok (.invokestatic 1059, 3) := by decide +kernel
theorem dJ0_checkIndex_df160_8 : decode cJ0_checkIndex_df160 8 = .ok (.pop, 1) := by decide +kernel
theorem dJ0_checkIndex_df160_9 : decode cJ0_checkIndex_df160 9 = .ok (.return_, 1) := by decide +kernel
theorem dJ1_charAt_3b067_0 : decode cJ1_charAt_3b067 0 = .ok (.iload_n 1, 1) := by decide +kernel
theorem dJ1_charAt_3b067_1 : decode cJ1_charAt_3b067 1 = .ok (.aload_n 0, 1) := by decide +kernel
theorem dJ1_charAt_3b067_2 : decode cJ1_charAt_3b067 2 = .ok (.arraylength, 1) := by decide +kernel
theorem dJ1_charAt_3b067_3 : decode cJ1_charAt_3b067 3 = .ok (.invokestatic 9, 3) := by decide +kernel
theorem dJ1_charAt_3b067_6 : decode cJ1_charAt_3b067 6 = .ok (.aload_n 0, 1) := by decide +kernel
theorem dJ1_charAt_3b067_7 : decode cJ1_charAt_3b067 7 = .ok (.iload_n 1, 1) := by decide +kernel
theorem dJ1_charAt_3b067_8 : decode cJ1_charAt_3b067 8 = .ok (.baload, 1) := by decide +kernel
theorem dJ1_charAt_3b067_9 : decode cJ1_charAt_3b067 9 = .ok (.sipush 255, 3) := by decide +kernel
theorem dJ1_charAt_3b067_12 : decode cJ1_charAt_3b067 12 = .ok (.iand, 1) := by decide +kernel
theorem dJ1_charAt_3b067_13 : decode cJ1_charAt_3b067 13 = .ok (.i2c, 1) := by decide +kernel
theorem dJ1_charAt_3b067_14 : decode cJ1_charAt_3b067 14 = .ok (.ireturn, 1) := by decide +kernel
theorem dJ2_getChar_3b067_0 : decode cJ2_getChar_3b067 0 = .ok (.getstatic 44, 3) := by decide +kernel
theorem dJ2_getChar_3b067_3 : decode cJ2_getChar_3b067 3 = .ok (.ifCond .ne 25, 3) := by decide +kernel
theorem dJ2_getChar_3b067_6 : decode cJ2_getChar_3b067 6 = .ok (.iload_n 1, 1) := by decide +kernel
theorem dJ2_getChar_3b067_7 : decode cJ2_getChar_3b067 7 = .ok (.ifCond .lt 11, 3) := by decide +kernel
theorem dJ2_getChar_3b067_10 : decode cJ2_getChar_3b067 10 = .ok (.iload_n 1, 1) := by decide +kernel
theorem dJ2_getChar_3b067_11 : decode cJ2_getChar_3b067 11 = .ok (.aload_n 0, 1) := by decide +kernel
theorem dJ2_getChar_3b067_12 : decode cJ2_getChar_3b067 12 = .ok (.invokestatic 48, 3) := by decide +kernel
theorem dJ2_getChar_3b067_15 : decode cJ2_getChar_3b067 15 = .ok (.if_icmp .lt 13, 3) := by decide +kernel
theorem dJ2_getChar_3b067_18 : decode cJ2_getChar_3b067 18 = .ok (.new 52, 3) := by decide +kernel
theorem dJ2_getChar_3b067_21 : decode cJ2_getChar_3b067 21 = .ok (.dup, 1) := by decide +kernel
theorem dJ2_getChar_3b067_22 : decode cJ2_getChar_3b067 22 = .ok (.ldc 54, 2) := by decide +kernel
theorem dJ2_getChar_3b067_24 : decode cJ2_getChar_3b067 24 = .ok (.invokespecial 56, 3) := by decide +kernel
theorem dJ2_getChar_3b067_27 : decode cJ2_getChar_3b067 27 = .ok (.athrow, 1) := by decide +kernel
theorem dJ2_getChar_3b067_28 : decode cJ2_getChar_3b067 28 = .ok (.iload_n 1, 1) := by decide +kernel
theorem dJ2_getChar_3b067_29 : decode cJ2_getChar_3b067 29 = .ok (.iconst 1, 1) := by decide +kernel
theorem dJ2_getChar_3b067_30 : decode cJ2_getChar_3b067 30 = .ok (.ishl, 1) := by decide +kernel
theorem dJ2_getChar_3b067_31 : decode cJ2_getChar_3b067 31 = .ok (.istore_n 1, 1) := by decide +kernel
theorem dJ2_getChar_3b067_32 : decode cJ2_getChar_3b067 32 = .ok (.aload_n 0, 1) := by decide +kernel
theorem dJ2_getChar_3b067_33 : decode cJ2_getChar_3b067 33 = .ok (.iload_n 1, 1) := by decide +kernel
theorem dJ2_getChar_3b067_34 : decode cJ2_getChar_3b067 34 = .ok (.iinc 1 1, 3) := by decide +kernel
theorem dJ2_getChar_3b067_37 : decode cJ2_getChar_3b067 37 = .ok (.baload, 1) := by decide +kernel
theorem dJ2_getChar_3b067_38 : decode cJ2_getChar_3b067 38 = .ok (.sipush 255, 3) := by decide +kernel
theorem dJ2_getChar_3b067_41 : decode cJ2_getChar_3b067 41 = .ok (.iand, 1) := by decide +kernel
theorem dJ2_getChar_3b067_42 : decode cJ2_getChar_3b067 42 = .ok (.getstatic 59, 3) := by decide +kernel
theorem dJ2_getChar_3b067_45 : decode cJ2_getChar_3b067 45 = .ok (.ishl, 1) := by decide +kernel
theorem dJ2_getChar_3b067_46 : decode cJ2_getChar_3b067 46 = .ok (.aload_n 0, 1) := by decide +kernel
theorem dJ2_getChar_3b067_47 : decode cJ2_getChar_3b067 47 = .ok (.iload_n 1, 1) := by decide +kernel
theorem dJ2_getChar_3b067_48 : decode cJ2_getChar_3b067 48 = .ok (.baload, 1) := by decide +kernel
theorem dJ2_getChar_3b067_49 : decode cJ2_getChar_3b067 49 = .ok (.sipush 255, 3) := by decide +kernel
theorem dJ2_getChar_3b067_52 : decode cJ2_getChar_3b067 52 = .ok (.iand, 1) := by decide +kernel
theorem dJ2_getChar_3b067_53 : decode cJ2_getChar_3b067 53 = .ok (.getstatic 63, 3) := by decide +kernel
theorem dJ2_getChar_3b067_56 : decode cJ2_getChar_3b067 56 = .ok (.ishl, 1) := by decide +kernel
theorem dJ2_getChar_3b067_57 : decode cJ2_getChar_3b067 57 = .ok (.ior, 1) := by decide +kernel
theorem dJ2_getChar_3b067_58 : decode cJ2_getChar_3b067 58 = .ok (.i2c, 1) := by decide +kernel
theorem dJ2_getChar_3b067_59 : decode cJ2_getChar_3b067 59 = .ok (.ireturn, 1) := by decide +kernel
theorem dJ2_length_9d52b_0 : decode cJ2_length_9d52b 0 = .ok (.aload_n 0, 1) := by decide +kernel
theorem dJ2_length_9d52b_1 : decode cJ2_length_9d52b 1 = .ok (.arraylength, 1) := by decide +kernel
theorem dJ2_length_9d52b_2 : decode cJ2_length_9d52b 2 = .ok (.iconst 1, 1) := by decide +kernel
