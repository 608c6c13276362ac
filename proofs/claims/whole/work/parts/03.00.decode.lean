theorem dX0_init_0 : decode cX0_init 0 = .ok (.aload_n 0, 1) := by decide +kernel
theorem dX0_init_1 : decode cX0_init 1 = .ok (.invokespecial 3, 3) := by decide +kernel
theorem dX0_init_4 : decode cX0_init 4 = .ok (.aload_n 0, 1) := by decide +kernel
theorem dX0_init_5 : decode cX0_init 5 = .ok (.bipush 8, 2) := by decide +kernel
theorem dX0_init_7 : decode cX0_init 7 = .ok (.newarray .long, 2) := by decide +kernel
theorem dX0_init_9 : decode cX0_init 9 = .ok (.putfield 9, 3) := by decide +kernel
theorem dX0_init_12 : decode cX0_init 12 = .ok (.aload_n 0, 1) := by decide +kernel
theorem dX0_init_13 : decode cX0_init 13 = .ok (.bipush 6, 2) := by decide +kernel
theorem dX0_init_15 : decode cX0_init 15 = .ok (.newarray .long, 2) := by decide +kernel
theorem dX0_init_17 : decode cX0_init 17 = .ok (.putfield 15, 3) := by decide +kernel
theorem dX0_init_20 : decode cX0_init 20 = .ok (.return_, 1) := by decide +kernel
theorem dX0_agreeingNow_0 : decode cX0_agreeingNow 0 = .ok (.aload_n 0, 1) := by decide +kernel
theorem dX0_agreeingNow_1 : decode cX0_agreeingNow 1 = .ok (.aload_n 1, 1) := by decide +kernel
theorem dX0_agreeingNow_2 : decode cX0_agreeingNow 2 = .ok (.aload_n 1, 1) := by decide +kernel
theorem dX0_agreeingNow_3 : decode cX0_agreeingNow 3 = .ok (.getfield 18, 3) := by decide +kernel
theorem dX0_agreeingNow_6 : decode cX0_agreeingNow 6 = .ok (.invokevirtual 24, 3) := by decide +kernel
theorem dX0_agreeingNow_9 : decode cX0_agreeingNow 9 = .ok (.aload_n 0, 1) := by decide +kernel
theorem dX0_agreeingNow_10 : decode cX0_agreeingNow 10 = .ok (.aload_n 1, 1) := by decide +kernel
theorem dX0_agreeingNow_11 : decode cX0_agreeingNow 11 = .ok (.aload_n 1, 1) := by decide +kernel
theorem dX0_agreeingNow_12 : decode cX0_agreeingNow 12 = .ok (.invokevirtual 28, 3) := by decide +kernel
theorem dX0_agreeingNow_15 : decode cX0_agreeingNow 15 = .ok (.aload_n 1, 1) := by decide +kernel
theorem dX0_agreeingNow_16 : decode cX0_agreeingNow 16 = .ok (.getfield 32, 3) := by decide +kernel
theorem dX0_agreeingNow_19 : decode cX0_agreeingNow 19 = .ok (.invokevirtual 35, 3) := by decide +kernel
theorem dX0_agreeingNow_22 : decode cX0_agreeingNow 22 = .ok (.lreturn, 1) := by decide +kernel
theorem dX0_open_0 : decode cX0_open 0 = .ok (.iconst 0, 1) := by decide +kernel
theorem dX0_open_1 : decode cX0_open 1 = .ok (.istore_n 3, 1) := by decide +kernel
theorem dX0_open_2 : decode cX0_open 2 = .ok (.iload_n 3, 1) := by decide +kernel
theorem dX0_open_3 : decode cX0_open 3 = .ok (.aload_n 1, 1) := by decide +kernel
theorem dX0_open_4 : decode cX0_open 4 = .ok (.getfield 39, 3) := by decide +kernel
theorem dX0_open_7 : decode cX0_open 7 = .ok (.if_icmp .ge 60, 3) := by decide +kernel
theorem dX0_open_10 : decode cX0_open 10 = .ok (.iload_n 2, 1) := by decide +kernel
theorem dX0_open_11 : decode cX0_open 11 = .ok (.aload_n 1, 1) := by decide +kernel
theorem dX0_open_12 : decode cX0_open 12 = .ok (.getfield 42, 3) := by decide +kernel
theorem dX0_open_15 : decode cX0_open 15 = .ok (.iload_n 3, 1) := by decide +kernel
theorem dX0_open_16 : decode cX0_open 16 = .ok (.iaload, 1) := by decide +kernel
theorem dX0_open_17 : decode cX0_open 17 = .ok (.invokestatic 46, 3) := by decide +kernel
theorem dX0_open_20 : decode cX0_open 20 = .ok (.iconst 1, 1) := by decide +kernel
theorem dX0_open_21 : decode cX0_open 21 = .ok (.if_icmp .ne 7, 3) := by decide +kernel
theorem dX0_open_24 : decode cX0_open 24 = .ok (.iconst 1, 1) := by decide +kernel
theorem dX0_open_25 : decode cX0_open 25 = .ok (.goto 4, 3) := by decide +kernel
theorem dX0_open_28 : decode cX0_open 28 = .ok (.iconst 0, 1) := by decide +kernel
theorem dX0_open_29 : decode cX0_open 29 = .ok (.istore 4, 2) := by decide +kernel
theorem dX0_open_31 : decode cX0_open 31 = .ok (.aload_n 0, 1) := by decide +kernel
theorem dX0_open_32 : decode cX0_open 32 = .ok (.getfield 9, 3) := by decide +kernel
theorem dX0_open_35 : decode cX0_open 35 = .ok (.iload_n 3, 1) := by decide +kernel
theorem dX0_open_36 : decode cX0_open 36 = .ok (.iload 4, 2) := by decide +kernel
theorem dX0_open_38 : decode cX0_open 38 = .ok (.ifCond .eq 7, 3) := by decide +kernel
theorem dX0_open_41 : decode cX0_open 41 = .ok (.lconst 0, 1) := by decide +kernel
theorem dX0_open_42 : decode cX0_open 42 = .ok (.goto 18, 3) := by decide +kernel
theorem dX0_open_45 : decode cX0_open 45 = .ok (.aload_n 1, 1) := by decide +kernel
theorem dX0_open_46 : decode cX0_open 46 = .ok (.getfield 50, 3) := by decide +kernel
theorem dX0_open_49 : decode cX0_open 49 = .ok (.iload_n 3, 1) := by decide +kernel
theorem dX0_open_50 : decode cX0_open 50 = .ok (.iaload, 1) := by decide +kernel
theorem dX0_open_51 : decode cX0_open 51 = .ok (.aload_n 1, 1) := by decide +kernel
theorem dX0_open_52 : decode cX0_open 52 = .ok (.getfield 53, 3) := by decide +kernel
theorem dX0_open_55 : decode cX0_open 55 = .ok (.iload_n 3, 1) := by decide +kernel
theorem dX0_open_56 : decode cX0_open 56 = .ok (.iaload, 1) := by decide +kernel
theorem dX0_open_57 : decode cX0_open 57 = .ok (.invokestatic 56, 3) := by decide +kernel
theorem dX0_open_60 : decode cX0_open 60 = .ok (.lastore, 1) := by decide +kernel
theorem dX0_open_61 : decode cX0_open 61 = .ok (.iinc 3 1, 3) := by decide +kernel
theorem dX0_open_64 : decode cX0_open 64 = .ok (.goto (-62), 3) := by decide +kernel
theorem dX0_open_67 : decode cX0_open 67 = .ok (.return_, 1) := by decide +kernel
theorem dX0_agreeing_0 : decode cX0_agreeing 0 = .ok (.aload_n 0, 1) := by decide +kernel
theorem dX0_agreeing_1 : decode cX0_agreeing 1 = .ok (.getfield 15, 3) := by decide +kernel
theorem dX0_agreeing_4 : decode cX0_agreeing 4 = .ok (.lconst 0, 1) := by decide +kernel
theorem dX0_agreeing_5 : decode cX0_agreeing 5 = .ok (.invokestatic 60, 3) := by decide +kernel
theorem dX0_agreeing_8 : decode cX0_agreeing 8 = .ok (.iconst 0, 1) := by decide +kernel
theorem dX0_agreeing_9 : decode cX0_agreeing 9 = .ok (.istore 4, 2) := by decide +kernel
theorem dX0_agreeing_11 : decode cX0_agreeing 11 = .ok (.iload 4, 2) := by decide +kernel
theorem dX0_agreeing_13 : decode cX0_agreeing 13 = .ok (.aload_n 1, 1) := by decide +kernel
theorem dX0_agreeing_14 : decode cX0_agreeing 14 = .ok (.getfield 39, 3) := by decide +kernel
theorem dX0_agreeing_17 : decode cX0_agreeing 17 = .ok (.if_icmp .ge 41, 3) := by decide +kernel
theorem dX0_agreeing_20 : decode cX0_agreeing 20 = .ok (.iload_n 2, 1) := by decide +kernel
theorem dX0_agreeing_21 : decode cX0_agreeing 21 = .ok (.iload 4, 2) := by decide +kernel
theorem dX0_agreeing_23 : decode cX0_agreeing 23 = .ok (.invokestatic 46, 3) := by decide +kernel
theorem dX0_agreeing_26 : decode cX0_agreeing 26 = .ok (.iconst 1, 1) := by decide +kernel
theorem dX0_agreeing_27 : decode cX0_agreeing 27 = .ok (.if_icmp .ne 25, 3) := by decide +kernel
theorem dX0_agreeing_30 : decode cX0_agreeing 30 = .ok (.aload_n 0, 1) := by decide +kernel
theorem dX0_agreeing_31 : decode cX0_agreeing 31 = .ok (.getfield 15, 3) := by decide +kernel
theorem dX0_agreeing_34 : decode cX0_agreeing 34 = .ok (.aload_n 1, 1) := by decide +kernel
theorem dX0_agreeing_35 : decode cX0_agreeing 35 = .ok (.getfield 66, 3) := by decide +kernel
theorem dX0_agreeing_38 : decode cX0_agreeing 38 = .ok (.iload 4, 2) := by decide +kernel
theorem dX0_agreeing_40 : decode cX0_agreeing 40 = .ok (.iaload, 1) := by decide +kernel
theorem dX0_agreeing_41 : decode cX0_agreeing 41 = .ok (.dup2, 1) := by decide +kernel
theorem dX0_agreeing_42 : decode cX0_agreeing 42 = .ok (.laload, 1) := by decide +kernel
theorem dX0_agreeing_43 : decode cX0_agreeing 43 = .ok (.aload_n 0, 1) := by decide +kernel
theorem dX0_agreeing_44 : decode cX0_agreeing 44 = .ok (.getfield 9, 3) := by decide +kernel
theorem dX0_agreeing_47 : decode cX0_agreeing 47 = .ok (.iload 4, 2) := by decide +kernel
theorem dX0_agreeing_49 : decode cX0_agreeing 49 = .ok (.laload, 1) := by decide +kernel
theorem dX0_agreeing_50 : decode cX0_agreeing 50 = .ok (.lor, 1) := by decide +kernel
theorem dX0_agreeing_51 : decode cX0_agreeing 51 = .ok (.lastore, 1) := by decide +kernel
theorem dX0_agreeing_52 : decode cX0_agreeing 52 = .ok (.iinc 4 1, 3) := by decide +kernel
theorem dX0_agreeing_55 : decode cX0_agreeing 55 = .ok (.goto (-44), 3) := by decide +kernel
theorem dX0_agreeing_58 : decode cX0_agreeing 58 = .ok (.aload_n 1, 1) := by decide +kernel
theorem dX0_agreeing_59 : decode cX0_agreeing 59 = .ok (.getfield 69, 3) := by decide +kernel
theorem dX0_agreeing_62 : decode cX0_agreeing 62 = .ok (.bipush 6, 2) := by decide +kernel
theorem dX0_agreeing_64 : decode cX0_agreeing 64 = .ok (.if_icmp .lt 9, 3) := by decide +kernel
theorem dX0_agreeing_67 : decode cX0_agreeing 67 = .ok (.ldc2_w 72, 3) := by decide +kernel
theorem dX0_agreeing_70 : decode cX0_agreeing 70 = .ok (.goto 13, 3) := by decide +kernel
theorem dX0_agreeing_73 : decode cX0_agreeing 73 = .ok (.lconst 1, 1) := by decide +kernel
theorem dX0_agreeing_74 : decode cX0_agreeing 74 = .ok (.iconst 1, 1) := by decide +kernel
theorem dX0_agreeing_75 : decode cX0_agreeing 75 = .ok (.aload_n 1, 1) := by decide +kernel
theorem dX0_agreeing_76 : decode cX0_agreeing 76 = .ok (.getfield 69, 3) := by decide +kernel
theorem dX0_agreeing_79 : decode cX0_agreeing 79 = .ok (.ishl, 1) := by decide +kernel
theorem dX0_agreeing_80 : decode cX0_agreeing 80 = .ok (.lshl, 1) := by decide +kernel
theorem dX0_agreeing_81 : decode cX0_agreeing 81 = .ok (.lconst 1, 1) := by decide +kernel
theorem dX0_agreeing_82 : decode cX0_agreeing 82 = .ok (.lsub, 1) := by decide +kernel
theorem dX0_agreeing_83 : decode cX0_agreeing 83 = .ok (.lstore 4, 2) := by decide +kernel
theorem dX0_agreeing_85 : decode cX0_agreeing 85 = .ok (.iconst 0, 1) := by decide +kernel
theorem dX0_agreeing_86 : decode cX0_agreeing 86 = .ok (.istore 6, 2) := by decide +kernel
theorem dX0_agreeing_88 : decode cX0_agreeing 88 = .ok (.iload 6, 2) := by decide +kernel
theorem dX0_agreeing_90 : decode cX0_agreeing 90 = .ok (.aload_n 1, 1) := by decide +kernel
theorem dX0_agreeing_91 : decode cX0_agreeing 91 = .ok (.getfield 69, 3) := by decide +kernel
theorem dX0_agreeing_94 : decode cX0_agreeing 94 = .ok (.if_icmp .ge 50, 3) := by decide +kernel
theorem dX0_agreeing_97 : decode cX0_agreeing 97 = .ok (.iload_n 3, 1) := by decide +kernel
theorem dX0_agreeing_98 : decode cX0_agreeing 98 = .ok (.iload 6, 2) := by decide +kernel
theorem dX0_agreeing_100 : decode cX0_agreeing 100 = .ok (.invokestatic 46, 3) := by decide +kernel
theorem dX0_agreeing_103 : decode cX0_agreeing 103 = .ok (.iconst 1, 1) := by decide +kernel
theorem dX0_agreeing_104 : decode cX0_agreeing 104 = .ok (.if_icmp .ne 7, 3) := by decide +kernel
theorem dX0_agreeing_107 : decode cX0_agreeing 107 = .ok (.lconst 0, 1) := by decide +kernel
theorem dX0_agreeing_108 : decode cX0_agreeing 108 = .ok (.goto 10, 3) := by decide +kernel
theorem dX0_agreeing_111 : decode cX0_agreeing 111 = .ok (.aload_n 0, 1) := by decide +kernel
theorem dX0_agreeing_112 : decode cX0_agreeing 112 = .ok (.getfield 15, 3) := by decide +kernel
theorem dX0_agreeing_115 : decode cX0_agreeing 115 = .ok (.iload 6, 2) := by decide +kernel
theorem dX0_agreeing_117 : decode cX0_agreeing 117 = .ok (.laload, 1) := by decide +kernel
theorem dX0_agreeing_118 : decode cX0_agreeing 118 = .ok (.lstore 7, 2) := by decide +kernel
theorem dX0_agreeing_120 : decode cX0_agreeing 120 = .ok (.lload 4, 2) := by decide +kernel
theorem dX0_agreeing_122 : decode cX0_agreeing 122 = .ok (.lload 7, 2) := by decide +kernel
theorem dX0_agreeing_124 : decode cX0_agreeing 124 = .ok (.getstatic 74, 3) := by decide +kernel
theorem dX0_agreeing_127 : decode cX0_agreeing 127 = .ok (.iload 6, 2) := by decide +kernel
theorem dX0_agreeing_129 : decode cX0_agreeing 129 = .ok (.laload, 1) := by decide +kernel
theorem dX0_agreeing_130 : decode cX0_agreeing 130 = .ok (.lxor, 1) := by decide +kernel
theorem dX0_agreeing_131 : decode cX0_agreeing 131 = .ok (.ldc2_w 72, 3) := by decide +kernel
theorem dX0_agreeing_134 : decode cX0_agreeing 134 = .ok (.lxor, 1) := by decide +kernel
theorem dX0_agreeing_135 : decode cX0_agreeing 135 = .ok (.land, 1) := by decide +kernel
theorem dX0_agreeing_136 : decode cX0_agreeing 136 = .ok (.lstore 4, 2) := by decide +kernel
theorem dX0_agreeing_138 : decode cX0_agreeing 138 = .ok (.iinc 6 1, 3) := by decide +kernel
theorem dX0_agreeing_141 : decode cX0_agreeing 141 = .ok (.goto (-53), 3) := by decide +kernel
theorem dX0_agreeing_144 : decode cX0_agreeing 144 = .ok (.lload 4, 2) := by decide +kernel
theorem dX0_agreeing_146 : decode cX0_agreeing 146 = .ok (.lreturn, 1) := by decide +kernel
theorem dX0_setsOf_0 : decode cX0_setsOf 0 = .ok (.ldc2_w 72, 3) := by decide +kernel
theorem dX0_setsOf_3 : decode cX0_setsOf 3 = .ok (.lstore_n 2, 1) := by decide +kernel
theorem dX0_setsOf_4 : decode cX0_setsOf 4 = .ok (.iconst 0, 1) := by decide +kernel
theorem dX0_setsOf_5 : decode cX0_setsOf 5 = .ok (.istore 4, 2) := by decide +kernel
theorem dX0_setsOf_7 : decode cX0_setsOf 7 = .ok (.iload 4, 2) := by decide +kernel
theorem dX0_setsOf_9 : decode cX0_setsOf 9 = .ok (.bipush 6, 2) := by decide +kernel
theorem dX0_setsOf_11 : decode cX0_setsOf 11 = .ok (.if_icmp .ge 51, 3) := by decide +kernel
theorem dX0_setsOf_14 : decode cX0_setsOf 14 = .ok (.iload_n 0, 1) := by decide +kernel
theorem dX0_setsOf_15 : decode cX0_setsOf 15 = .ok (.iload 4, 2) := by decide +kernel
theorem dX0_setsOf_17 : decode cX0_setsOf 17 = .ok (.invokestatic 46, 3) := by decide +kernel
theorem dX0_setsOf_20 : decode cX0_setsOf 20 = .ok (.iconst 1, 1) := by decide +kernel
theorem dX0_setsOf_21 : decode cX0_setsOf 21 = .ok (.if_icmp .ne 12, 3) := by decide +kernel
theorem dX0_setsOf_24 : decode cX0_setsOf 24 = .ok (.lload_n 2, 1) := by decide +kernel
theorem dX0_setsOf_25 : decode cX0_setsOf 25 = .ok (.getstatic 74, 3) := by decide +kernel
theorem dX0_setsOf_28 : decode cX0_setsOf 28 = .ok (.iload 4, 2) := by decide +kernel
theorem dX0_setsOf_30 : decode cX0_setsOf 30 = .ok (.laload, 1) := by decide +kernel
theorem dX0_setsOf_31 : decode cX0_setsOf 31 = .ok (.land, 1) := by decide +kernel
theorem dX0_setsOf_32 : decode cX0_setsOf 32 = .ok (.lstore_n 2, 1) := by decide +kernel
theorem dX0_setsOf_33 : decode cX0_setsOf 33 = .ok (.iload_n 1, 1) := by decide +kernel
theorem dX0_setsOf_34 : decode cX0_setsOf 34 = .ok (.iload 4, 2) := by decide +kernel
theorem dX0_setsOf_36 : decode cX0_setsOf 36 = .ok (.invokestatic 46, 3) := by decide +kernel
theorem dX0_setsOf_39 : decode cX0_setsOf 39 = .ok (.iconst 1, 1) := by decide +kernel
theorem dX0_setsOf_40 : decode cX0_setsOf 40 = .ok (.if_icmp .ne 16, 3) := by decide +kernel
theorem dX0_setsOf_43 : decode cX0_setsOf 43 = .ok (.lload_n 2, 1) := by decide +kernel
theorem dX0_setsOf_44 : decode cX0_setsOf 44 = .ok (.getstatic 74, 3) := by decide +kernel
theorem dX0_setsOf_47 : decode cX0_setsOf 47 = .ok (.iload 4, 2) := by decide +kernel
theorem dX0_setsOf_49 : decode cX0_setsOf 49 = .ok (.laload, 1) := by decide +kernel
theorem dX0_setsOf_50 : decode cX0_setsOf 50 = .ok (.ldc2_w 72, 3) := by decide +kernel
theorem dX0_setsOf_53 : decode cX0_setsOf 53 = .ok (.lxor, 1) := by decide +kernel
theorem dX0_setsOf_54 : decode cX0_setsOf 54 = .ok (.land, 1) := by decide +kernel
theorem dX0_setsOf_55 : decode cX0_setsOf 55 = .ok (.lstore_n 2, 1) := by decide +kernel
theorem dX0_setsOf_56 : decode cX0_setsOf 56 = .ok (.iinc 4 1, 3) := by decide +kernel
theorem dX0_setsOf_59 : decode cX0_setsOf 59 = .ok (.goto (-52), 3) := by decide +kernel
theorem dX0_setsOf_62 : decode cX0_setsOf 62 = .ok (.lload_n 2, 1) := by decide +kernel
theorem dX0_setsOf_63 : decode cX0_setsOf 63 = .ok (.lreturn, 1) := by decide +kernel
theorem dX1_init_0 : decode cX1_init 0 = .ok (.aload_n 0, 1) := by decide +kernel
theorem dX1_init_1 : decode cX1_init 1 = .ok (.invokespecial 3, 3) := by decide +kernel
theorem dX1_init_4 : decode cX1_init 4 = .ok (.aload_n 0, 1) := by decide +kernel
theorem dX1_init_5 : decode cX1_init 5 = .ok (.iconst (-1), 1) := by decide +kernel
theorem dX1_init_6 : decode cX1_init 6 = .ok (.putfield 11, 3) := by decide +kernel
theorem dX1_init_9 : decode cX1_init 9 = .ok (.aload_n 0, 1) := by decide +kernel
theorem dX1_init_10 : decode cX1_init 10 = .ok (.bipush 40, 2) := by decide +kernel
theorem dX1_init_12 : decode cX1_init 12 = .ok (.newarray .int, 2) := by decide +kernel
theorem dX1_init_14 : decode cX1_init 14 = .ok (.putfield 15, 3) := by decide +kernel
theorem dX1_init_17 : decode cX1_init 17 = .ok (.return_, 1) := by decide +kernel
theorem dX1_renew_0 : decode cX1_renew 0 = .ok (.aload_n 0, 1) := by decide +kernel
theorem dX1_renew_1 : decode cX1_renew 1 = .ok (.iload_n 1, 1) := by decide +kernel
theorem dX1_renew_2 : decode cX1_renew 2 = .ok (.putfield 11, 3) := by decide +kernel
theorem dX1_renew_5 : decode cX1_renew 5 = .ok (.aload_n 0, 1) := by decide +kernel
theorem dX1_renew_6 : decode cX1_renew 6 = .ok (.iload_n 2, 1) := by decide +kernel
theorem dX1_renew_7 : decode cX1_renew 7 = .ok (.putfield 19, 3) := by decide +kernel
theorem dX1_renew_10 : decode cX1_renew 10 = .ok (.aload_n 0, 1) := by decide +kernel
theorem dX1_renew_11 : decode cX1_renew 11 = .ok (.getfield 15, 3) := by decide +kernel
theorem dX1_renew_14 : decode cX1_renew 14 = .ok (.iconst 0, 1) := by decide +kernel
theorem dX1_renew_15 : decode cX1_renew 15 = .ok (.invokestatic 22, 3) := by decide +kernel
theorem dX1_renew_18 : decode cX1_renew 18 = .ok (.return_, 1) := by decide +kernel
theorem dX1_faultAt_0 : decode cX1_faultAt 0 = .ok (.aload_n 0, 1) := by decide +kernel
theorem dX1_faultAt_1 : decode cX1_faultAt 1 = .ok (.getfield 11, 3) := by decide +kernel
theorem dX1_faultAt_4 : decode cX1_faultAt 4 = .ok (.iconst (-1), 1) := by decide +kernel
theorem dX1_faultAt_5 : decode cX1_faultAt 5 = .ok (.if_icmp .ne 5, 3) := by decide +kernel
theorem dX1_faultAt_8 : decode cX1_faultAt 8 = .ok (.iconst 1, 1) := by decide +kernel
theorem dX1_faultAt_9 : decode cX1_faultAt 9 = .ok (.ireturn, 1) := by decide +kernel
theorem dX1_faultAt_10 : decode cX1_faultAt 10 = .ok (.aload_n 0, 1) := by decide +kernel
theorem dX1_faultAt_11 : decode cX1_faultAt 11 = .ok (.getfield 11, 3) := by decide +kernel
theorem dX1_faultAt_14 : decode cX1_faultAt 14 = .ok (.iload_n 1, 1) := by decide +kernel
theorem dX1_faultAt_15 : decode cX1_faultAt 15 = .ok (.if_icmp .eq 5, 3) := by decide +kernel
theorem dX1_faultAt_18 : decode cX1_faultAt 18 = .ok (.iconst 3, 1) := by decide +kernel
theorem dX1_faultAt_19 : decode cX1_faultAt 19 = .ok (.ireturn, 1) := by decide +kernel
theorem dX1_faultAt_20 : decode cX1_faultAt 20 = .ok (.iload_n 2, 1) := by decide +kernel
theorem dX1_faultAt_21 : decode cX1_faultAt 21 = .ok (.ifCond .lt 11, 3) := by decide +kernel
theorem dX1_faultAt_24 : decode cX1_faultAt 24 = .ok (.iload_n 2, 1) := by decide +kernel
theorem dX1_faultAt_25 : decode cX1_faultAt 25 = .ok (.aload_n 0, 1) := by decide +kernel
theorem dX1_faultAt_26 : decode cX1_faultAt 26 = .ok (.getfield 19, 3) := by decide +kernel
theorem dX1_faultAt_29 : decode cX1_faultAt 29 = .ok (.if_icmp .lt 7, 3) := by decide +kernel
theorem dX1_faultAt_32 : decode cX1_faultAt 32 = .ok (.iconst 2, 1) := by decide +kernel
theorem dX1_faultAt_33 : decode cX1_faultAt 33 = .ok (.goto 4, 3) := by decide +kernel
theorem dX1_faultAt_36 : decode cX1_faultAt 36 = .ok (.iconst 0, 1) := by decide +kernel
theorem dX1_faultAt_37 : decode cX1_faultAt 37 = .ok (.ireturn, 1) := by decide +kernel
theorem dX1_faultAtPair_0 : decode cX1_faultAtPair 0 = .ok (.aload_n 0, 1) := by decide +kernel
theorem dX1_faultAtPair_1 : decode cX1_faultAtPair 1 = .ok (.iload_n 1, 1) := by decide +kernel
theorem dX1_faultAtPair_2 : decode cX1_faultAtPair 2 = .ok (.iload_n 2, 1) := by decide +kernel
theorem dX1_faultAtPair_3 : decode cX1_faultAtPair 3 = .ok (.invokevirtual 28, 3) := by decide +kernel
theorem dX1_faultAtPair_6 : decode cX1_faultAtPair 6 = .ok (.istore_n 3, 1) := by decide +kernel
theorem dX1_faultAtPair_7 : decode cX1_faultAtPair 7 = .ok (.iload_n 3, 1) := by decide +kernel
theorem dX1_faultAtPair_8 : decode cX1_faultAtPair 8 = .ok (.ifCond .eq 7, 3) := by decide +kernel
theorem dX1_faultAtPair_11 : decode cX1_faultAtPair 11 = .ok (.iload_n 3, 1) := by decide +kernel
theorem dX1_faultAtPair_12 : decode cX1_faultAtPair 12 = .ok (.goto 11, 3) := by decide +kernel
theorem dX1_faultAtPair_15 : decode cX1_faultAtPair 15 = .ok (.aload_n 0, 1) := by decide +kernel
theorem dX1_faultAtPair_16 : decode cX1_faultAtPair 16 = .ok (.iload_n 1, 1) := by decide +kernel
theorem dX1_faultAtPair_17 : decode cX1_faultAtPair 17 = .ok (.iload_n 2, 1) := by decide +kernel
theorem dX1_faultAtPair_18 : decode cX1_faultAtPair 18 = .ok (.iconst 1, 1) := by decide +kernel
theorem dX1_faultAtPair_19 : decode cX1_faultAtPair 19 = .ok (.iadd, 1) := by decide +kernel
theorem dX1_faultAtPair_20 : decode cX1_faultAtPair 20 = .ok (.invokevirtual 28, 3) := by decide +kernel
theorem dX1_faultAtPair_23 : decode cX1_faultAtPair 23 = .ok (.ireturn, 1) := by decide +kernel
theorem dX1_put_0 : decode cX1_put 0 = .ok (.iload_n 1, 1) := by decide +kernel
theorem dX1_put_1 : decode cX1_put 1 = .ok (.ifCond .lt 43, 3) := by decide +kernel
theorem dX1_put_4 : decode cX1_put 4 = .ok (.iload_n 1, 1) := by decide +kernel
theorem dX1_put_5 : decode cX1_put 5 = .ok (.aload_n 0, 1) := by decide +kernel
theorem dX1_put_6 : decode cX1_put 6 = .ok (.getfield 19, 3) := by decide +kernel
theorem dX1_put_9 : decode cX1_put 9 = .ok (.if_icmp .ge 35, 3) := by decide +kernel
theorem dX1_put_12 : decode cX1_put 12 = .ok (.aload_n 0, 1) := by decide +kernel
theorem dX1_put_13 : decode cX1_put 13 = .ok (.getfield 15, 3) := by decide +kernel
theorem dX1_put_16 : decode cX1_put 16 = .ok (.iload_n 1, 1) := by decide +kernel
theorem dX1_put_17 : decode cX1_put 17 = .ok (.aload_n 0, 1) := by decide +kernel
theorem dX1_put_18 : decode cX1_put 18 = .ok (.getfield 11, 3) := by decide +kernel
theorem dX1_put_21 : decode cX1_put 21 = .ok (.ifCond .ne 8, 3) := by decide +kernel
theorem dX1_put_24 : decode cX1_put 24 = .ok (.iload_n 2, 1) := by decide +kernel
theorem dX1_put_25 : decode cX1_put 25 = .ok (.i2b, 1) := by decide +kernel
theorem dX1_put_26 : decode cX1_put 26 = .ok (.goto 17, 3) := by decide +kernel
theorem dX1_put_29 : decode cX1_put 29 = .ok (.aload_n 0, 1) := by decide +kernel
theorem dX1_put_30 : decode cX1_put 30 = .ok (.getfield 11, 3) := by decide +kernel
theorem dX1_put_33 : decode cX1_put 33 = .ok (.iconst 1, 1) := by decide +kernel
theorem dX1_put_34 : decode cX1_put 34 = .ok (.if_icmp .ne 8, 3) := by decide +kernel
theorem dX1_put_37 : decode cX1_put 37 = .ok (.iload_n 2, 1) := by decide +kernel
theorem dX1_put_38 : decode cX1_put 38 = .ok (.i2s, 1) := by decide +kernel
theorem dX1_put_39 : decode cX1_put 39 = .ok (.goto 4, 3) := by decide +kernel
theorem dX1_put_42 : decode cX1_put 42 = .ok (.iload_n 2, 1) := by decide +kernel
theorem dX1_put_43 : decode cX1_put 43 = .ok (.iastore, 1) := by decide +kernel
theorem dX1_put_44 : decode cX1_put 44 = .ok (.return_, 1) := by decide +kernel
theorem dX1_cellAt_0 : decode cX1_cellAt 0 = .ok (.iload_n 1, 1) := by decide +kernel
theorem dX1_cellAt_1 : decode cX1_cellAt 1 = .ok (.ifCond .lt 20, 3) := by decide +kernel
theorem dX1_cellAt_4 : decode cX1_cellAt 4 = .ok (.iload_n 1, 1) := by decide +kernel
theorem dX1_cellAt_5 : decode cX1_cellAt 5 = .ok (.aload_n 0, 1) := by decide +kernel
theorem dX1_cellAt_6 : decode cX1_cellAt 6 = .ok (.getfield 19, 3) := by decide +kernel
theorem dX1_cellAt_9 : decode cX1_cellAt 9 = .ok (.if_icmp .ge 12, 3) := by decide +kernel
theorem dX1_cellAt_12 : decode cX1_cellAt 12 = .ok (.aload_n 0, 1) := by decide +kernel
theorem dX1_cellAt_13 : decode cX1_cellAt 13 = .ok (.getfield 15, 3) := by decide +kernel
theorem dX1_cellAt_16 : decode cX1_cellAt 16 = .ok (.iload_n 1, 1) := by decide +kernel
theorem dX1_cellAt_17 : decode cX1_cellAt 17 = .ok (.iaload, 1) := by decide +kernel
theorem dX1_cellAt_18 : decode cX1_cellAt 18 = .ok (.goto 4, 3) := by decide +kernel
theorem dX1_cellAt_21 : decode cX1_cellAt 21 = .ok (.iconst 0, 1) := by decide +kernel
theorem dX1_cellAt_22 : decode cX1_cellAt 22 = .ok (.ireturn, 1) := by decide +kernel
theorem dX2_init_0 : decode cX2_init 0 = .ok (.aload_n 0, 1) := by decide +kernel
theorem dX2_init_1 : decode cX2_init 1 = .ok (.invokespecial 3, 3) := by decide +kernel
theorem dX2_init_4 : decode cX2_init 4 = .ok (.aload_n 0, 1) := by decide +kernel
theorem dX2_init_5 : decode cX2_init 5 = .ok (.bipush 8, 2) := by decide +kernel
theorem dX2_init_7 : decode cX2_init 7 = .ok (.newarray .int, 2) := by decide +kernel
theorem dX2_init_9 : decode cX2_init 9 = .ok (.putfield 9, 3) := by decide +kernel
theorem dX2_init_12 : decode cX2_init 12 = .ok (.aload_n 0, 1) := by decide +kernel
theorem dX2_init_13 : decode cX2_init 13 = .ok (.bipush 8, 2) := by decide +kernel
theorem dX2_init_15 : decode cX2_init 15 = .ok (.newarray .int, 2) := by decide +kernel
theorem dX2_init_17 : decode cX2_init 17 = .ok (.putfield 15, 3) := by decide +kernel
theorem dX2_init_20 : decode cX2_init 20 = .ok (.aload_n 0, 1) := by decide +kernel
theorem dX2_init_21 : decode cX2_init 21 = .ok (.bipush 8, 2) := by decide +kernel
theorem dX2_init_23 : decode cX2_init 23 = .ok (.newarray .int, 2) := by decide +kernel
theorem dX2_init_25 : decode cX2_init 25 = .ok (.putfield 18, 3) := by decide +kernel
theorem dX2_init_28 : decode cX2_init 28 = .ok (.aload_n 0, 1) := by decide +kernel
theorem dX2_init_29 : decode cX2_init 29 = .ok (.bipush 8, 2) := by decide +kernel
theorem dX2_init_31 : decode cX2_init 31 = .ok (.newarray .int, 2) := by decide +kernel
theorem dX2_init_33 : decode cX2_init 33 = .ok (.putfield 21, 3) := by decide +kernel
theorem dX2_init_36 : decode cX2_init 36 = .ok (.aload_n 0, 1) := by decide +kernel
theorem dX2_init_37 : decode cX2_init 37 = .ok (.bipush 6, 2) := by decide +kernel
theorem dX2_init_39 : decode cX2_init 39 = .ok (.newarray .int, 2) := by decide +kernel
theorem dX2_init_41 : decode cX2_init 41 = .ok (.putfield 24, 3) := by decide +kernel
theorem dX2_init_44 : decode cX2_init 44 = .ok (.aload_n 0, 1) := by decide +kernel
theorem dX2_init_45 : decode cX2_init 45 = .ok (.iconst 3, 1) := by decide +kernel
theorem dX2_init_46 : decode cX2_init 46 = .ok (.putfield 27, 3) := by decide +kernel
theorem dX2_init_49 : decode cX2_init 49 = .ok (.aload_n 0, 1) := by decide +kernel
theorem dX2_init_50 : decode cX2_init 50 = .ok (.iconst 2, 1) := by decide +kernel
theorem dX2_init_51 : decode cX2_init 51 = .ok (.putfield 31, 3) := by decide +kernel
theorem dX2_init_54 : decode cX2_init 54 = .ok (.return_, 1) := by decide +kernel
theorem dX2_clear_0 : decode cX2_clear 0 = .ok (.aload_n 0, 1) := by decide +kernel
theorem dX2_clear_1 : decode cX2_clear 1 = .ok (.iconst 3, 1) := by decide +kernel
theorem dX2_clear_2 : decode cX2_clear 2 = .ok (.putfield 27, 3) := by decide +kernel
theorem dX2_clear_5 : decode cX2_clear 5 = .ok (.aload_n 0, 1) := by decide +kernel
theorem dX2_clear_6 : decode cX2_clear 6 = .ok (.iconst 2, 1) := by decide +kernel
theorem dX2_clear_7 : decode cX2_clear 7 = .ok (.putfield 31, 3) := by decide +kernel
theorem dX2_clear_10 : decode cX2_clear 10 = .ok (.aload_n 0, 1) := by decide +kernel
theorem dX2_clear_11 : decode cX2_clear 11 = .ok (.iconst 0, 1) := by decide +kernel
theorem dX2_clear_12 : decode cX2_clear 12 = .ok (.putfield 34, 3) := by decide +kernel
theorem dX2_clear_15 : decode cX2_clear 15 = .ok (.aload_n 0, 1) := by decide +kernel
theorem dX2_clear_16 : decode cX2_clear 16 = .ok (.iconst 0, 1) := by decide +kernel
theorem dX2_clear_17 : decode cX2_clear 17 = .ok (.putfield 37, 3) := by decide +kernel
theorem dX2_clear_20 : decode cX2_clear 20 = .ok (.aload_n 0, 1) := by decide +kernel
theorem dX2_clear_21 : decode cX2_clear 21 = .ok (.iconst 0, 1) := by decide +kernel
theorem dX2_clear_22 : decode cX2_clear 22 = .ok (.putfield 40, 3) := by decide +kernel
theorem dX2_clear_25 : decode cX2_clear 25 = .ok (.aload_n 0, 1) := by decide +kernel
theorem dX2_clear_26 : decode cX2_clear 26 = .ok (.iconst 0, 1) := by decide +kernel
theorem dX2_clear_27 : decode cX2_clear 27 = .ok (.putfield 43, 3) := by decide +kernel
theorem dX2_clear_30 : decode cX2_clear 30 = .ok (.aload_n 0, 1) := by decide +kernel
theorem dX2_clear_31 : decode cX2_clear 31 = .ok (.iconst 0, 1) := by decide +kernel
theorem dX2_clear_32 : decode cX2_clear 32 = .ok (.putfield 46, 3) := by decide +kernel
theorem dX2_clear_35 : decode cX2_clear 35 = .ok (.aload_n 0, 1) := by decide +kernel
theorem dX2_clear_36 : decode cX2_clear 36 = .ok (.getfield 24, 3) := by decide +kernel
theorem dX2_clear_39 : decode cX2_clear 39 = .ok (.iconst 0, 1) := by decide +kernel
theorem dX2_clear_40 : decode cX2_clear 40 = .ok (.invokestatic 49, 3) := by decide +kernel
theorem dX2_clear_43 : decode cX2_clear 43 = .ok (.return_, 1) := by decide +kernel
theorem dX2_become_0 : decode cX2_become 0 = .ok (.aload_n 0, 1) := by decide +kernel
theorem dX2_become_1 : decode cX2_become 1 = .ok (.aload_n 1, 1) := by decide +kernel
theorem dX2_become_2 : decode cX2_become 2 = .ok (.getfield 27, 3) := by decide +kernel
theorem dX2_become_5 : decode cX2_become 5 = .ok (.putfield 27, 3) := by decide +kernel
theorem dX2_become_8 : decode cX2_become 8 = .ok (.aload_n 0, 1) := by decide +kernel
theorem dX2_become_9 : decode cX2_become 9 = .ok (.aload_n 1, 1) := by decide +kernel
theorem dX2_become_10 : decode cX2_become 10 = .ok (.getfield 31, 3) := by decide +kernel
theorem dX2_become_13 : decode cX2_become 13 = .ok (.putfield 31, 3) := by decide +kernel
theorem dX2_become_16 : decode cX2_become 16 = .ok (.aload_n 0, 1) := by decide +kernel
theorem dX2_become_17 : decode cX2_become 17 = .ok (.aload_n 1, 1) := by decide +kernel
theorem dX2_become_18 : decode cX2_become 18 = .ok (.getfield 34, 3) := by decide +kernel
theorem dX2_become_21 : decode cX2_become 21 = .ok (.putfield 34, 3) := by decide +kernel
theorem dX2_become_24 : decode cX2_become 24 = .ok (.aload_n 0, 1) := by decide +kernel
theorem dX2_become_25 : decode cX2_become 25 = .ok (.aload_n 1, 1) := by decide +kernel
theorem dX2_become_26 : decode cX2_become 26 = .ok (.getfield 37, 3) := by decide +kernel
theorem dX2_become_29 : decode cX2_become 29 = .ok (.putfield 37, 3) := by decide +kernel
theorem dX2_become_32 : decode cX2_become 32 = .ok (.aload_n 0, 1) := by decide +kernel
theorem dX2_become_33 : decode cX2_become 33 = .ok (.aload_n 1, 1) := by decide +kernel
theorem dX2_become_34 : decode cX2_become 34 = .ok (.getfield 40, 3) := by decide +kernel
theorem dX2_become_37 : decode cX2_become 37 = .ok (.putfield 40, 3) := by decide +kernel
theorem dX2_become_40 : decode cX2_become 40 = .ok (.aload_n 0, 1) := by decide +kernel
theorem dX2_become_41 : decode cX2_become 41 = .ok (.aload_n 1, 1) := by decide +kernel
theorem dX2_become_42 : decode cX2_become 42 = .ok (.getfield 43, 3) := by decide +kernel
theorem dX2_become_45 : decode cX2_become 45 = .ok (.putfield 43, 3) := by decide +kernel
theorem dX2_become_48 : decode cX2_become 48 = .ok (.aload_n 0, 1) := by decide +kernel
theorem dX2_become_49 : decode cX2_become 49 = .ok (.aload_n 1, 1) := by decide +kernel
theorem dX2_become_50 : decode cX2_become 50 = .ok (.getfield 46, 3) := by decide +kernel
theorem dX2_become_53 : decode cX2_become 53 = .ok (.putfield 46, 3) := by decide +kernel
theorem dX2_become_56 : decode cX2_become 56 = .ok (.aload_n 1, 1) := by decide +kernel
theorem dX2_become_57 : decode cX2_become 57 = .ok (.getfield 9, 3) := by decide +kernel
theorem dX2_become_60 : decode cX2_become 60 = .ok (.iconst 0, 1) := by decide +kernel
theorem dX2_become_61 : decode cX2_become 61 = .ok (.aload_n 0, 1) := by decide +kernel
theorem dX2_become_62 : decode cX2_become 62 = .ok (.getfield 9, 3) := by decide +kernel
theorem dX2_become_65 : decode cX2_become 65 = .ok (.iconst 0, 1) := by decide +kernel
theorem dX2_become_66 : decode cX2_become 66 = .ok (.bipush 8, 2) := by decide +kernel
theorem dX2_become_68 : decode cX2_become 68 = .ok (.invokestatic 55, 3) := by decide +kernel
theorem dX2_become_71 : decode cX2_become 71 = .ok (.aload_n 1, 1) := by decide +kernel
theorem dX2_become_72 : decode cX2_become 72 = .ok (.getfield 15, 3) := by decide +kernel
theorem dX2_become_75 : decode cX2_become 75 = .ok (.iconst 0, 1) := by decide +kernel
theorem dX2_become_76 : decode cX2_become 76 = .ok (.aload_n 0, 1) := by decide +kernel
theorem dX2_become_77 : decode cX2_become 77 = .ok (.getfield 15, 3) := by decide +kernel
theorem dX2_become_80 : decode cX2_become 80 = .ok (.iconst 0, 1) := by decide +kernel
theorem dX2_become_81 : decode cX2_become 81 = .ok (.bipush 8, 2) := by decide +kernel
theorem dX2_become_83 : decode cX2_become 83 = .ok (.invokestatic 55, 3) := by decide +kernel
theorem dX2_become_86 : decode cX2_become 86 = .ok (.aload_n 1, 1) := by decide +kernel
theorem dX2_become_87 : decode cX2_become 87 = .ok (.getfield 18, 3) := by decide +kernel
theorem dX2_become_90 : decode cX2_become 90 = .ok (.iconst 0, 1) := by decide +kernel
theorem dX2_become_91 : decode cX2_become 91 = .ok (.aload_n 0, 1) := by decide +kernel
theorem dX2_become_92 : decode cX2_become 92 = .ok (.getfield 18, 3) := by decide +kernel
theorem dX2_become_95 : decode cX2_become 95 = .ok (.iconst 0, 1) := by decide +kernel
theorem dX2_become_96 : decode cX2_become 96 = .ok (.bipush 8, 2) := by decide +kernel
theorem dX2_become_98 : decode cX2_become 98 = .ok (.invokestatic 55, 3) := by decide +kernel
theorem dX2_become_101 : decode cX2_become 101 = .ok (.aload_n 1, 1) := by decide +kernel
theorem dX2_become_102 : decode cX2_become 102 = .ok (.getfield 21, 3) := by decide +kernel
theorem dX2_become_105 : decode cX2_become 105 = .ok (.iconst 0, 1) := by decide +kernel
theorem dX2_become_106 : decode cX2_become 106 = .ok (.aload_n 0, 1) := by decide +kernel
theorem dX2_become_107 : decode cX2_become 107 = .ok (.getfield 21, 3) := by decide +kernel
theorem dX2_become_110 : decode cX2_become 110 = .ok (.iconst 0, 1) := by decide +kernel
theorem dX2_become_111 : decode cX2_become 111 = .ok (.bipush 8, 2) := by decide +kernel
theorem dX2_become_113 : decode cX2_become 113 = .ok (.invokestatic 55, 3) := by decide +kernel
theorem dX2_become_116 : decode cX2_become 116 = .ok (.aload_n 1, 1) := by decide +kernel
theorem dX2_become_117 : decode cX2_become 117 = .ok (.getfield 24, 3) := by decide +kernel
theorem dX2_become_120 : decode cX2_become 120 = .ok (.iconst 0, 1) := by decide +kernel
theorem dX2_become_121 : decode cX2_become 121 = .ok (.aload_n 0, 1) := by decide +kernel
theorem dX2_become_122 : decode cX2_become 122 = .ok (.getfield 24, 3) := by decide +kernel
theorem dX2_become_125 : decode cX2_become 125 = .ok (.iconst 0, 1) := by decide +kernel
theorem dX2_become_126 : decode cX2_become 126 = .ok (.bipush 6, 2) := by decide +kernel
theorem dX2_become_128 : decode cX2_become 128 = .ok (.invokestatic 55, 3) := by decide +kernel
theorem dX2_become_131 : decode cX2_become 131 = .ok (.return_, 1) := by decide +kernel
theorem dX2_addRule_0 : decode cX2_addRule 0 = .ok (.aload_n 0, 1) := by decide +kernel
theorem dX2_addRule_1 : decode cX2_addRule 1 = .ok (.getfield 34, 3) := by decide +kernel
theorem dX2_addRule_4 : decode cX2_addRule 4 = .ok (.bipush 8, 2) := by decide +kernel
theorem dX2_addRule_6 : decode cX2_addRule 6 = .ok (.if_icmp .ge 54, 3) := by decide +kernel
theorem dX2_addRule_9 : decode cX2_addRule 9 = .ok (.aload_n 0, 1) := by decide +kernel
theorem dX2_addRule_10 : decode cX2_addRule 10 = .ok (.getfield 9, 3) := by decide +kernel
theorem dX2_addRule_13 : decode cX2_addRule 13 = .ok (.aload_n 0, 1) := by decide +kernel
theorem dX2_addRule_14 : decode cX2_addRule 14 = .ok (.getfield 34, 3) := by decide +kernel
theorem dX2_addRule_17 : decode cX2_addRule 17 = .ok (.iload_n 1, 1) := by decide +kernel
theorem dX2_addRule_18 : decode cX2_addRule 18 = .ok (.iastore, 1) := by decide +kernel
theorem dX2_addRule_19 : decode cX2_addRule 19 = .ok (.aload_n 0, 1) := by decide +kernel
theorem dX2_addRule_20 : decode cX2_addRule 20 = .ok (.getfield 15, 3) := by decide +kernel
theorem dX2_addRule_23 : decode cX2_addRule 23 = .ok (.aload_n 0, 1) := by decide +kernel
theorem dX2_addRule_24 : decode cX2_addRule 24 = .ok (.getfield 34, 3) := by decide +kernel
theorem dX2_addRule_27 : decode cX2_addRule 27 = .ok (.iload_n 2, 1) := by decide +kernel
theorem dX2_addRule_28 : decode cX2_addRule 28 = .ok (.iastore, 1) := by decide +kernel
theorem dX2_addRule_29 : decode cX2_addRule 29 = .ok (.aload_n 0, 1) := by decide +kernel
theorem dX2_addRule_30 : decode cX2_addRule 30 = .ok (.getfield 18, 3) := by decide +kernel
theorem dX2_addRule_33 : decode cX2_addRule 33 = .ok (.aload_n 0, 1) := by decide +kernel
theorem dX2_addRule_34 : decode cX2_addRule 34 = .ok (.getfield 34, 3) := by decide +kernel
theorem dX2_addRule_37 : decode cX2_addRule 37 = .ok (.iload_n 3, 1) := by decide +kernel
theorem dX2_addRule_38 : decode cX2_addRule 38 = .ok (.iastore, 1) := by decide +kernel
theorem dX2_addRule_39 : decode cX2_addRule 39 = .ok (.aload_n 0, 1) := by decide +kernel
theorem dX2_addRule_40 : decode cX2_addRule 40 = .ok (.getfield 21, 3) := by decide +kernel
theorem dX2_addRule_43 : decode cX2_addRule 43 = .ok (.aload_n 0, 1) := by decide +kernel
theorem dX2_addRule_44 : decode cX2_addRule 44 = .ok (.getfield 34, 3) := by decide +kernel
theorem dX2_addRule_47 : decode cX2_addRule 47 = .ok (.iload 4, 2) := by decide +kernel
theorem dX2_addRule_49 : decode cX2_addRule 49 = .ok (.iastore, 1) := by decide +kernel
theorem dX2_addRule_50 : decode cX2_addRule 50 = .ok (.aload_n 0, 1) := by decide +kernel
theorem dX2_addRule_51 : decode cX2_addRule 51 = .ok (.dup, 1) := by decide +kernel
theorem dX2_addRule_52 : decode cX2_addRule 52 = .ok (.getfield 34, 3) := by decide +kernel
theorem dX2_addRule_55 : decode cX2_addRule 55 = .ok (.iconst 1, 1) := by decide +kernel
theorem dX2_addRule_56 : decode cX2_addRule 56 = .ok (.iadd, 1) := by decide +kernel
theorem dX2_addRule_57 : decode cX2_addRule 57 = .ok (.putfield 34, 3) := by decide +kernel
theorem dX2_addRule_60 : decode cX2_addRule 60 = .ok (.return_, 1) := by decide +kernel
theorem dX2_hasNote_0 : decode cX2_hasNote 0 = .ok (.iload_n 1, 1) := by decide +kernel
theorem dX2_hasNote_1 : decode cX2_hasNote 1 = .ok (.ifCond .lt 15, 3) := by decide +kernel
theorem dX2_hasNote_4 : decode cX2_hasNote 4 = .ok (.iload_n 1, 1) := by decide +kernel
theorem dX2_hasNote_5 : decode cX2_hasNote 5 = .ok (.aload_n 0, 1) := by decide +kernel
theorem dX2_hasNote_6 : decode cX2_hasNote 6 = .ok (.getfield 27, 3) := by decide +kernel
theorem dX2_hasNote_9 : decode cX2_hasNote 9 = .ok (.if_icmp .ge 7, 3) := by decide +kernel
theorem dX2_hasNote_12 : decode cX2_hasNote 12 = .ok (.iconst 1, 1) := by decide +kernel
theorem dX2_hasNote_13 : decode cX2_hasNote 13 = .ok (.goto 4, 3) := by decide +kernel
theorem dX2_hasNote_16 : decode cX2_hasNote 16 = .ok (.iconst 0, 1) := by decide +kernel
theorem dX2_hasNote_17 : decode cX2_hasNote 17 = .ok (.ireturn, 1) := by decide +kernel
theorem dX2_hasRule_0 : decode cX2_hasRule 0 = .ok (.iload_n 1, 1) := by decide +kernel
theorem dX2_hasRule_1 : decode cX2_hasRule 1 = .ok (.ifCond .lt 15, 3) := by decide +kernel
theorem dX2_hasRule_4 : decode cX2_hasRule 4 = .ok (.iload_n 1, 1) := by decide +kernel
theorem dX2_hasRule_5 : decode cX2_hasRule 5 = .ok (.aload_n 0, 1) := by decide +kernel
theorem dX2_hasRule_6 : decode cX2_hasRule 6 = .ok (.getfield 34, 3) := by decide +kernel
theorem dX2_hasRule_9 : decode cX2_hasRule 9 = .ok (.if_icmp .ge 7, 3) := by decide +kernel
theorem dX2_hasRule_12 : decode cX2_hasRule 12 = .ok (.iconst 1, 1) := by decide +kernel
theorem dX2_hasRule_13 : decode cX2_hasRule 13 = .ok (.goto 4, 3) := by decide +kernel
theorem dX2_hasRule_16 : decode cX2_hasRule 16 = .ok (.iconst 0, 1) := by decide +kernel
theorem dX2_hasRule_17 : decode cX2_hasRule 17 = .ok (.ireturn, 1) := by decide +kernel
theorem dX2_hasSet_0 : decode cX2_hasSet 0 = .ok (.iload_n 1, 1) := by decide +kernel
theorem dX2_hasSet_1 : decode cX2_hasSet 1 = .ok (.ifCond .lt 15, 3) := by decide +kernel
theorem dX2_hasSet_4 : decode cX2_hasSet 4 = .ok (.iload_n 1, 1) := by decide +kernel
theorem dX2_hasSet_5 : decode cX2_hasSet 5 = .ok (.aload_n 0, 1) := by decide +kernel
theorem dX2_hasSet_6 : decode cX2_hasSet 6 = .ok (.invokevirtual 61, 3) := by decide +kernel
theorem dX2_hasSet_9 : decode cX2_hasSet 9 = .ok (.if_icmp .gt 7, 3) := by decide +kernel
theorem dX2_hasSet_12 : decode cX2_hasSet 12 = .ok (.iconst 1, 1) := by decide +kernel
theorem dX2_hasSet_13 : decode cX2_hasSet 13 = .ok (.goto 4, 3) := by decide +kernel
theorem dX2_hasSet_16 : decode cX2_hasSet 16 = .ok (.iconst 0, 1) := by decide +kernel
theorem dX2_hasSet_17 : decode cX2_hasSet 17 = .ok (.ireturn, 1) := by decide +kernel
theorem dX2_allNotes_0 : decode cX2_allNotes 0 = .ok (.iconst 1, 1) := by decide +kernel
theorem dX2_allNotes_1 : decode cX2_allNotes 1 = .ok (.aload_n 0, 1) := by decide +kernel
theorem dX2_allNotes_2 : decode cX2_allNotes 2 = .ok (.getfield 27, 3) := by decide +kernel
theorem dX2_allNotes_5 : decode cX2_allNotes 5 = .ok (.ishl, 1) := by decide +kernel
theorem dX2_allNotes_6 : decode cX2_allNotes 6 = .ok (.iconst 1, 1) := by decide +kernel
theorem dX2_allNotes_7 : decode cX2_allNotes 7 = .ok (.isub, 1) := by decide +kernel
theorem dX2_allNotes_8 : decode cX2_allNotes 8 = .ok (.ireturn, 1) := by decide +kernel
theorem dX2_allRules_0 : decode cX2_allRules 0 = .ok (.iconst 1, 1) := by decide +kernel
theorem dX2_allRules_1 : decode cX2_allRules 1 = .ok (.aload_n 0, 1) := by decide +kernel
theorem dX2_allRules_2 : decode cX2_allRules 2 = .ok (.getfield 34, 3) := by decide +kernel
theorem dX2_allRules_5 : decode cX2_allRules 5 = .ok (.ishl, 1) := by decide +kernel
theorem dX2_allRules_6 : decode cX2_allRules 6 = .ok (.iconst 1, 1) := by decide +kernel
theorem dX2_allRules_7 : decode cX2_allRules 7 = .ok (.isub, 1) := by decide +kernel
theorem dX2_allRules_8 : decode cX2_allRules 8 = .ok (.ireturn, 1) := by decide +kernel
theorem dX2_holds_0 : decode cX2_holds 0 = .ok (.aload_n 0, 1) := by decide +kernel
theorem dX2_holds_1 : decode cX2_holds 1 = .ok (.getfield 37, 3) := by decide +kernel
theorem dX2_holds_4 : decode cX2_holds 4 = .ok (.aload_n 0, 1) := by decide +kernel
theorem dX2_holds_5 : decode cX2_holds 5 = .ok (.getfield 9, 3) := by decide +kernel
theorem dX2_holds_8 : decode cX2_holds 8 = .ok (.iload_n 1, 1) := by decide +kernel
theorem dX2_holds_9 : decode cX2_holds 9 = .ok (.iaload, 1) := by decide +kernel
theorem dX2_holds_10 : decode cX2_holds 10 = .ok (.invokestatic 65, 3) := by decide +kernel
theorem dX2_holds_13 : decode cX2_holds 13 = .ok (.ifCond .ne 31, 3) := by decide +kernel
theorem dX2_holds_16 : decode cX2_holds 16 = .ok (.aload_n 0, 1) := by decide +kernel
theorem dX2_holds_17 : decode cX2_holds 17 = .ok (.getfield 18, 3) := by decide +kernel
theorem dX2_holds_20 : decode cX2_holds 20 = .ok (.iload_n 1, 1) := by decide +kernel
theorem dX2_holds_21 : decode cX2_holds 21 = .ok (.iaload, 1) := by decide +kernel
theorem dX2_holds_22 : decode cX2_holds 22 = .ok (.iload_n 2, 1) := by decide +kernel
theorem dX2_holds_23 : decode cX2_holds 23 = .ok (.iconst (-1), 1) := by decide +kernel
theorem dX2_holds_24 : decode cX2_holds 24 = .ok (.ixor, 1) := by decide +kernel
theorem dX2_holds_25 : decode cX2_holds 25 = .ok (.iand, 1) := by decide +kernel
theorem dX2_holds_26 : decode cX2_holds 26 = .ok (.ifCond .ne 18, 3) := by decide +kernel
theorem dX2_holds_29 : decode cX2_holds 29 = .ok (.aload_n 0, 1) := by decide +kernel
theorem dX2_holds_30 : decode cX2_holds 30 = .ok (.getfield 21, 3) := by decide +kernel
theorem dX2_holds_33 : decode cX2_holds 33 = .ok (.iload_n 1, 1) := by decide +kernel
theorem dX2_holds_34 : decode cX2_holds 34 = .ok (.iaload, 1) := by decide +kernel
theorem dX2_holds_35 : decode cX2_holds 35 = .ok (.iload_n 2, 1) := by decide +kernel
theorem dX2_holds_36 : decode cX2_holds 36 = .ok (.iand, 1) := by decide +kernel
theorem dX2_holds_37 : decode cX2_holds 37 = .ok (.ifCond .ne 7, 3) := by decide +kernel
theorem dX2_holds_40 : decode cX2_holds 40 = .ok (.iconst 1, 1) := by decide +kernel
theorem dX2_holds_41 : decode cX2_holds 41 = .ok (.goto 4, 3) := by decide +kernel
theorem dX2_holds_44 : decode cX2_holds 44 = .ok (.iconst 0, 1) := by decide +kernel
theorem dX2_holds_45 : decode cX2_holds 45 = .ok (.ireturn, 1) := by decide +kernel
theorem dX2_holding_0 : decode cX2_holding 0 = .ok (.iconst 0, 1) := by decide +kernel
theorem dX2_holding_1 : decode cX2_holding 1 = .ok (.istore_n 2, 1) := by decide +kernel
theorem dX2_holding_2 : decode cX2_holding 2 = .ok (.iconst 0, 1) := by decide +kernel
theorem dX2_holding_3 : decode cX2_holding 3 = .ok (.istore_n 3, 1) := by decide +kernel
theorem dX2_holding_4 : decode cX2_holding 4 = .ok (.iload_n 3, 1) := by decide +kernel
theorem dX2_holding_5 : decode cX2_holding 5 = .ok (.aload_n 0, 1) := by decide +kernel
theorem dX2_holding_6 : decode cX2_holding 6 = .ok (.getfield 34, 3) := by decide +kernel
theorem dX2_holding_9 : decode cX2_holding 9 = .ok (.if_icmp .ge 24, 3) := by decide +kernel
theorem dX2_holding_12 : decode cX2_holding 12 = .ok (.aload_n 0, 1) := by decide +kernel
theorem dX2_holding_13 : decode cX2_holding 13 = .ok (.iload_n 3, 1) := by decide +kernel
theorem dX2_holding_14 : decode cX2_holding 14 = .ok (.iload_n 1, 1) := by decide +kernel
theorem dX2_holding_15 : decode cX2_holding 15 = .ok (.invokevirtual 69, 3) := by decide +kernel
theorem dX2_holding_18 : decode cX2_holding 18 = .ok (.ifCond .eq 9, 3) := by decide +kernel
theorem dX2_holding_21 : decode cX2_holding 21 = .ok (.iload_n 2, 1) := by decide +kernel
theorem dX2_holding_22 : decode cX2_holding 22 = .ok (.iconst 1, 1) := by decide +kernel
theorem dX2_holding_23 : decode cX2_holding 23 = .ok (.iload_n 3, 1) := by decide +kernel
theorem dX2_holding_24 : decode cX2_holding 24 = .ok (.ishl, 1) := by decide +kernel
theorem dX2_holding_25 : decode cX2_holding 25 = .ok (.ior, 1) := by decide +kernel
theorem dX2_holding_26 : decode cX2_holding 26 = .ok (.istore_n 2, 1) := by decide +kernel
theorem dX2_holding_27 : decode cX2_holding 27 = .ok (.iinc 3 1, 3) := by decide +kernel
theorem dX2_holding_30 : decode cX2_holding 30 = .ok (.goto (-26), 3) := by decide +kernel
theorem dX2_holding_33 : decode cX2_holding 33 = .ok (.iload_n 2, 1) := by decide +kernel
theorem dX2_holding_34 : decode cX2_holding 34 = .ok (.ireturn, 1) := by decide +kernel
theorem dX2_outcome_0 : decode cX2_outcome 0 = .ok (.iconst 0, 1) := by decide +kernel
theorem dX2_outcome_1 : decode cX2_outcome 1 = .ok (.istore_n 2, 1) := by decide +kernel
theorem dX2_outcome_2 : decode cX2_outcome 2 = .ok (.iconst 0, 1) := by decide +kernel
theorem dX2_outcome_3 : decode cX2_outcome 3 = .ok (.istore_n 3, 1) := by decide +kernel
theorem dX2_outcome_4 : decode cX2_outcome 4 = .ok (.iload_n 3, 1) := by decide +kernel
theorem dX2_outcome_5 : decode cX2_outcome 5 = .ok (.aload_n 0, 1) := by decide +kernel
theorem dX2_outcome_6 : decode cX2_outcome 6 = .ok (.getfield 34, 3) := by decide +kernel
theorem dX2_outcome_9 : decode cX2_outcome 9 = .ok (.if_icmp .ge 29, 3) := by decide +kernel
theorem dX2_outcome_12 : decode cX2_outcome 12 = .ok (.aload_n 0, 1) := by decide +kernel
theorem dX2_outcome_13 : decode cX2_outcome 13 = .ok (.iload_n 3, 1) := by decide +kernel
theorem dX2_outcome_14 : decode cX2_outcome 14 = .ok (.iload_n 1, 1) := by decide +kernel
theorem dX2_outcome_15 : decode cX2_outcome 15 = .ok (.invokevirtual 69, 3) := by decide +kernel
theorem dX2_outcome_18 : decode cX2_outcome 18 = .ok (.ifCond .eq 14, 3) := by decide +kernel
theorem dX2_outcome_21 : decode cX2_outcome 21 = .ok (.iload_n 2, 1) := by decide +kernel
theorem dX2_outcome_22 : decode cX2_outcome 22 = .ok (.iconst 1, 1) := by decide +kernel
theorem dX2_outcome_23 : decode cX2_outcome 23 = .ok (.aload_n 0, 1) := by decide +kernel
theorem dX2_outcome_24 : decode cX2_outcome 24 = .ok (.getfield 15, 3) := by decide +kernel
theorem dX2_outcome_27 : decode cX2_outcome 27 = .ok (.iload_n 3, 1) := by decide +kernel
theorem dX2_outcome_28 : decode cX2_outcome 28 = .ok (.iaload, 1) := by decide +kernel
theorem dX2_outcome_29 : decode cX2_outcome 29 = .ok (.ishl, 1) := by decide +kernel
theorem dX2_outcome_30 : decode cX2_outcome 30 = .ok (.ior, 1) := by decide +kernel
theorem dX2_outcome_31 : decode cX2_outcome 31 = .ok (.istore_n 2, 1) := by decide +kernel
theorem dX2_outcome_32 : decode cX2_outcome 32 = .ok (.iinc 3 1, 3) := by decide +kernel
theorem dX2_outcome_35 : decode cX2_outcome 35 = .ok (.goto (-31), 3) := by decide +kernel
theorem dX2_outcome_38 : decode cX2_outcome 38 = .ok (.iload_n 2, 1) := by decide +kernel
theorem dX2_outcome_39 : decode cX2_outcome 39 = .ok (.aload_n 0, 1) := by decide +kernel
theorem dX2_outcome_40 : decode cX2_outcome 40 = .ok (.getfield 40, 3) := by decide +kernel
theorem dX2_outcome_43 : decode cX2_outcome 43 = .ok (.iconst (-1), 1) := by decide +kernel
theorem dX2_outcome_44 : decode cX2_outcome 44 = .ok (.ixor, 1) := by decide +kernel
theorem dX2_outcome_45 : decode cX2_outcome 45 = .ok (.iand, 1) := by decide +kernel
theorem dX2_outcome_46 : decode cX2_outcome 46 = .ok (.ireturn, 1) := by decide +kernel
theorem dX2_beginnings_0 : decode cX2_beginnings 0 = .ok (.iload_n 1, 1) := by decide +kernel
theorem dX2_beginnings_1 : decode cX2_beginnings 1 = .ok (.aload_n 0, 1) := by decide +kernel
theorem dX2_beginnings_2 : decode cX2_beginnings 2 = .ok (.getfield 40, 3) := by decide +kernel
theorem dX2_beginnings_5 : decode cX2_beginnings 5 = .ok (.iconst (-1), 1) := by decide +kernel
theorem dX2_beginnings_6 : decode cX2_beginnings 6 = .ok (.ixor, 1) := by decide +kernel
theorem dX2_beginnings_7 : decode cX2_beginnings 7 = .ok (.iand, 1) := by decide +kernel
theorem dX2_beginnings_8 : decode cX2_beginnings 8 = .ok (.istore_n 2, 1) := by decide +kernel
theorem dX2_beginnings_9 : decode cX2_beginnings 9 = .ok (.aload_n 0, 1) := by decide +kernel
theorem dX2_beginnings_10 : decode cX2_beginnings 10 = .ok (.iload_n 1, 1) := by decide +kernel
theorem dX2_beginnings_11 : decode cX2_beginnings 11 = .ok (.invokevirtual 73, 3) := by decide +kernel
theorem dX2_beginnings_14 : decode cX2_beginnings 14 = .ok (.istore_n 3, 1) := by decide +kernel
theorem dX2_beginnings_15 : decode cX2_beginnings 15 = .ok (.iconst 0, 1) := by decide +kernel
theorem dX2_beginnings_16 : decode cX2_beginnings 16 = .ok (.istore 4, 2) := by decide +kernel
theorem dX2_beginnings_18 : decode cX2_beginnings 18 = .ok (.iconst 0, 1) := by decide +kernel
theorem dX2_beginnings_19 : decode cX2_beginnings 19 = .ok (.istore 5, 2) := by decide +kernel
theorem dX2_beginnings_21 : decode cX2_beginnings 21 = .ok (.iload 5, 2) := by decide +kernel
theorem dX2_beginnings_23 : decode cX2_beginnings 23 = .ok (.bipush 6, 2) := by decide +kernel
theorem dX2_beginnings_25 : decode cX2_beginnings 25 = .ok (.if_icmp .ge 68, 3) := by decide +kernel
theorem dX2_beginnings_28 : decode cX2_beginnings 28 = .ok (.iconst 0, 1) := by decide +kernel
theorem dX2_beginnings_29 : decode cX2_beginnings 29 = .ok (.istore 6, 2) := by decide +kernel
theorem dX2_beginnings_31 : decode cX2_beginnings 31 = .ok (.iload 6, 2) := by decide +kernel
theorem dX2_beginnings_33 : decode cX2_beginnings 33 = .ok (.aload_n 0, 1) := by decide +kernel
theorem dX2_beginnings_34 : decode cX2_beginnings 34 = .ok (.getfield 34, 3) := by decide +kernel
theorem dX2_beginnings_37 : decode cX2_beginnings 37 = .ok (.if_icmp .ge 50, 3) := by decide +kernel
theorem dX2_beginnings_40 : decode cX2_beginnings 40 = .ok (.iload_n 3, 1) := by decide +kernel
theorem dX2_beginnings_41 : decode cX2_beginnings 41 = .ok (.iload 6, 2) := by decide +kernel
theorem dX2_beginnings_43 : decode cX2_beginnings 43 = .ok (.invokestatic 65, 3) := by decide +kernel
theorem dX2_beginnings_46 : decode cX2_beginnings 46 = .ok (.iconst 1, 1) := by decide +kernel
theorem dX2_beginnings_47 : decode cX2_beginnings 47 = .ok (.if_icmp .ne 34, 3) := by decide +kernel
theorem dX2_beginnings_50 : decode cX2_beginnings 50 = .ok (.aload_n 0, 1) := by decide +kernel
theorem dX2_beginnings_51 : decode cX2_beginnings 51 = .ok (.getfield 18, 3) := by decide +kernel
theorem dX2_beginnings_54 : decode cX2_beginnings 54 = .ok (.iload 6, 2) := by decide +kernel
theorem dX2_beginnings_56 : decode cX2_beginnings 56 = .ok (.iaload, 1) := by decide +kernel
theorem dX2_beginnings_57 : decode cX2_beginnings 57 = .ok (.iload 4, 2) := by decide +kernel
theorem dX2_beginnings_59 : decode cX2_beginnings 59 = .ok (.iconst (-1), 1) := by decide +kernel
theorem dX2_beginnings_60 : decode cX2_beginnings 60 = .ok (.ixor, 1) := by decide +kernel
theorem dX2_beginnings_61 : decode cX2_beginnings 61 = .ok (.iand, 1) := by decide +kernel
theorem dX2_beginnings_62 : decode cX2_beginnings 62 = .ok (.ifCond .ne 19, 3) := by decide +kernel
theorem dX2_beginnings_65 : decode cX2_beginnings 65 = .ok (.iload 4, 2) := by decide +kernel
theorem dX2_beginnings_67 : decode cX2_beginnings 67 = .ok (.iconst 1, 1) := by decide +kernel
theorem dX2_beginnings_68 : decode cX2_beginnings 68 = .ok (.aload_n 0, 1) := by decide +kernel
theorem dX2_beginnings_69 : decode cX2_beginnings 69 = .ok (.getfield 15, 3) := by decide +kernel
theorem dX2_beginnings_72 : decode cX2_beginnings 72 = .ok (.iload 6, 2) := by decide +kernel
theorem dX2_beginnings_74 : decode cX2_beginnings 74 = .ok (.iaload, 1) := by decide +kernel
theorem dX2_beginnings_75 : decode cX2_beginnings 75 = .ok (.ishl, 1) := by decide +kernel
theorem dX2_beginnings_76 : decode cX2_beginnings 76 = .ok (.iload_n 2, 1) := by decide +kernel
theorem dX2_beginnings_77 : decode cX2_beginnings 77 = .ok (.iand, 1) := by decide +kernel
theorem dX2_beginnings_78 : decode cX2_beginnings 78 = .ok (.ior, 1) := by decide +kernel
theorem dX2_beginnings_79 : decode cX2_beginnings 79 = .ok (.istore 4, 2) := by decide +kernel
theorem dX2_beginnings_81 : decode cX2_beginnings 81 = .ok (.iinc 6 1, 3) := by decide +kernel
theorem dX2_beginnings_84 : decode cX2_beginnings 84 = .ok (.goto (-53), 3) := by decide +kernel
theorem dX2_beginnings_87 : decode cX2_beginnings 87 = .ok (.iinc 5 1, 3) := by decide +kernel
theorem dX2_beginnings_90 : decode cX2_beginnings 90 = .ok (.goto (-69), 3) := by decide +kernel
theorem dX2_beginnings_93 : decode cX2_beginnings 93 = .ok (.iload 4, 2) := by decide +kernel
theorem dX2_beginnings_95 : decode cX2_beginnings 95 = .ok (.ireturn, 1) := by decide +kernel
theorem dX2_writers_0 : decode cX2_writers 0 = .ok (.iconst 0, 1) := by decide +kernel
theorem dX2_writers_1 : decode cX2_writers 1 = .ok (.istore_n 3, 1) := by decide +kernel
theorem dX2_writers_2 : decode cX2_writers 2 = .ok (.iconst 0, 1) := by decide +kernel
theorem dX2_writers_3 : decode cX2_writers 3 = .ok (.istore 4, 2) := by decide +kernel
theorem dX2_writers_5 : decode cX2_writers 5 = .ok (.iload 4, 2) := by decide +kernel
theorem dX2_writers_7 : decode cX2_writers 7 = .ok (.aload_n 0, 1) := by decide +kernel
theorem dX2_writers_8 : decode cX2_writers 8 = .ok (.getfield 34, 3) := by decide +kernel
theorem dX2_writers_11 : decode cX2_writers 11 = .ok (.if_icmp .ge 42, 3) := by decide +kernel
theorem dX2_writers_14 : decode cX2_writers 14 = .ok (.aload_n 0, 1) := by decide +kernel
theorem dX2_writers_15 : decode cX2_writers 15 = .ok (.getfield 15, 3) := by decide +kernel
theorem dX2_writers_18 : decode cX2_writers 18 = .ok (.iload 4, 2) := by decide +kernel
theorem dX2_writers_20 : decode cX2_writers 20 = .ok (.iaload, 1) := by decide +kernel
theorem dX2_writers_21 : decode cX2_writers 21 = .ok (.iload_n 2, 1) := by decide +kernel
theorem dX2_writers_22 : decode cX2_writers 22 = .ok (.if_icmp .ne 25, 3) := by decide +kernel
theorem dX2_writers_25 : decode cX2_writers 25 = .ok (.aload_n 0, 1) := by decide +kernel
theorem dX2_writers_26 : decode cX2_writers 26 = .ok (.iload 4, 2) := by decide +kernel
theorem dX2_writers_28 : decode cX2_writers 28 = .ok (.iload_n 1, 1) := by decide +kernel
theorem dX2_writers_29 : decode cX2_writers 29 = .ok (.invokevirtual 69, 3) := by decide +kernel
theorem dX2_writers_32 : decode cX2_writers 32 = .ok (.ifCond .eq 15, 3) := by decide +kernel
theorem dX2_writers_35 : decode cX2_writers 35 = .ok (.iload_n 3, 1) := by decide +kernel
theorem dX2_writers_36 : decode cX2_writers 36 = .ok (.iconst 1, 1) := by decide +kernel
theorem dX2_writers_37 : decode cX2_writers 37 = .ok (.aload_n 0, 1) := by decide +kernel
theorem dX2_writers_38 : decode cX2_writers 38 = .ok (.getfield 9, 3) := by decide +kernel
theorem dX2_writers_41 : decode cX2_writers 41 = .ok (.iload 4, 2) := by decide +kernel
theorem dX2_writers_43 : decode cX2_writers 43 = .ok (.iaload, 1) := by decide +kernel
theorem dX2_writers_44 : decode cX2_writers 44 = .ok (.ishl, 1) := by decide +kernel
theorem dX2_writers_45 : decode cX2_writers 45 = .ok (.ior, 1) := by decide +kernel
theorem dX2_writers_46 : decode cX2_writers 46 = .ok (.istore_n 3, 1) := by decide +kernel
theorem dX2_writers_47 : decode cX2_writers 47 = .ok (.iinc 4 1, 3) := by decide +kernel
theorem dX2_writers_50 : decode cX2_writers 50 = .ok (.goto (-45), 3) := by decide +kernel
theorem dX2_writers_53 : decode cX2_writers 53 = .ok (.iload_n 3, 1) := by decide +kernel
theorem dX2_writers_54 : decode cX2_writers 54 = .ok (.ireturn, 1) := by decide +kernel
theorem dX2_sumOfWorths_0 : decode cX2_sumOfWorths 0 = .ok (.iconst 0, 1) := by decide +kernel
theorem dX2_sumOfWorths_1 : decode cX2_sumOfWorths 1 = .ok (.istore_n 2, 1) := by decide +kernel
theorem dX2_sumOfWorths_2 : decode cX2_sumOfWorths 2 = .ok (.iconst 0, 1) := by decide +kernel
theorem dX2_sumOfWorths_3 : decode cX2_sumOfWorths 3 = .ok (.istore_n 3, 1) := by decide +kernel
theorem dX2_sumOfWorths_4 : decode cX2_sumOfWorths 4 = .ok (.iload_n 3, 1) := by decide +kernel
theorem dX2_sumOfWorths_5 : decode cX2_sumOfWorths 5 = .ok (.aload_n 0, 1) := by decide +kernel
theorem dX2_sumOfWorths_6 : decode cX2_sumOfWorths 6 = .ok (.getfield 27, 3) := by decide +kernel
theorem dX2_sumOfWorths_9 : decode cX2_sumOfWorths 9 = .ok (.if_icmp .ge 27, 3) := by decide +kernel
theorem dX2_sumOfWorths_12 : decode cX2_sumOfWorths 12 = .ok (.iload_n 1, 1) := by decide +kernel
theorem dX2_sumOfWorths_13 : decode cX2_sumOfWorths 13 = .ok (.iload_n 3, 1) := by decide +kernel
theorem dX2_sumOfWorths_14 : decode cX2_sumOfWorths 14 = .ok (.invokestatic 65, 3) := by decide +kernel
theorem dX2_sumOfWorths_17 : decode cX2_sumOfWorths 17 = .ok (.iconst 1, 1) := by decide +kernel
theorem dX2_sumOfWorths_18 : decode cX2_sumOfWorths 18 = .ok (.if_icmp .ne 12, 3) := by decide +kernel
theorem dX2_sumOfWorths_21 : decode cX2_sumOfWorths 21 = .ok (.iload_n 2, 1) := by decide +kernel
theorem dX2_sumOfWorths_22 : decode cX2_sumOfWorths 22 = .ok (.aload_n 0, 1) := by decide +kernel
theorem dX2_sumOfWorths_23 : decode cX2_sumOfWorths 23 = .ok (.getfield 24, 3) := by decide +kernel
theorem dX2_sumOfWorths_26 : decode cX2_sumOfWorths 26 = .ok (.iload_n 3, 1) := by decide +kernel
theorem dX2_sumOfWorths_27 : decode cX2_sumOfWorths 27 = .ok (.iaload, 1) := by decide +kernel
theorem dX2_sumOfWorths_28 : decode cX2_sumOfWorths 28 = .ok (.iadd, 1) := by decide +kernel
theorem dX2_sumOfWorths_29 : decode cX2_sumOfWorths 29 = .ok (.istore_n 2, 1) := by decide +kernel
theorem dX2_sumOfWorths_30 : decode cX2_sumOfWorths 30 = .ok (.iinc 3 1, 3) := by decide +kernel
theorem dX2_sumOfWorths_33 : decode cX2_sumOfWorths 33 = .ok (.goto (-29), 3) := by decide +kernel
theorem dX2_sumOfWorths_36 : decode cX2_sumOfWorths 36 = .ok (.iload_n 2, 1) := by decide +kernel
theorem dX2_sumOfWorths_37 : decode cX2_sumOfWorths 37 = .ok (.ireturn, 1) := by decide +kernel
theorem dX3_init_0 : decode cX3_init 0 = .ok (.aload_n 0, 1) := by decide +kernel
theorem dX3_init_1 : decode cX3_init 1 = .ok (.invokespecial 3, 3) := by decide +kernel
theorem dX3_init_4 : decode cX3_init 4 = .ok (.aload_n 0, 1) := by decide +kernel
theorem dX3_init_5 : decode cX3_init 5 = .ok (.new 9, 3) := by decide +kernel
theorem dX3_init_8 : decode cX3_init 8 = .ok (.dup, 1) := by decide +kernel
theorem dX3_init_9 : decode cX3_init 9 = .ok (.invokespecial 11, 3) := by decide +kernel
theorem dX3_init_12 : decode cX3_init 12 = .ok (.putfield 12, 3) := by decide +kernel
theorem dX3_init_15 : decode cX3_init 15 = .ok (.aload_n 0, 1) := by decide +kernel
theorem dX3_init_16 : decode cX3_init 16 = .ok (.sipush 160, 3) := by decide +kernel
theorem dX3_init_19 : decode cX3_init 19 = .ok (.newarray .byte, 2) := by decide +kernel
theorem dX3_init_21 : decode cX3_init 21 = .ok (.putfield 18, 3) := by decide +kernel
theorem dX3_init_24 : decode cX3_init 24 = .ok (.return_, 1) := by decide +kernel
theorem dX3_append_0 : decode cX3_append 0 = .ok (.aload_n 0, 1) := by decide +kernel
theorem dX3_append_1 : decode cX3_append 1 = .ok (.getfield 22, 3) := by decide +kernel
theorem dX3_append_4 : decode cX3_append 4 = .ok (.sipush 160, 3) := by decide +kernel
theorem dX3_append_7 : decode cX3_append 7 = .ok (.if_icmp .ge 24, 3) := by decide +kernel
theorem dX3_append_10 : decode cX3_append 10 = .ok (.aload_n 0, 1) := by decide +kernel
theorem dX3_append_11 : decode cX3_append 11 = .ok (.getfield 18, 3) := by decide +kernel
theorem dX3_append_14 : decode cX3_append 14 = .ok (.aload_n 0, 1) := by decide +kernel
theorem dX3_append_15 : decode cX3_append 15 = .ok (.getfield 22, 3) := by decide +kernel
theorem dX3_append_18 : decode cX3_append 18 = .ok (.iload_n 1, 1) := by decide +kernel
theorem dX3_append_19 : decode cX3_append 19 = .ok (.i2b, 1) := by decide +kernel
theorem dX3_append_20 : decode cX3_append 20 = .ok (.bastore, 1) := by decide +kernel
theorem dX3_append_21 : decode cX3_append 21 = .ok (.aload_n 0, 1) := by decide +kernel
theorem dX3_append_22 : decode cX3_append 22 = .ok (.dup, 1) := by decide +kernel
theorem dX3_append_23 : decode cX3_append 23 = .ok (.getfield 22, 3) := by decide +kernel
theorem dX3_append_26 : decode cX3_append 26 = .ok (.iconst 1, 1) := by decide +kernel
theorem dX3_append_27 : decode cX3_append 27 = .ok (.iadd, 1) := by decide +kernel
theorem dX3_append_28 : decode cX3_append 28 = .ok (.putfield 22, 3) := by decide +kernel
theorem dX3_append_31 : decode cX3_append 31 = .ok (.return_, 1) := by decide +kernel
theorem dX3_tell_0 : decode cX3_tell 0 = .ok (.aload_n 0, 1) := by decide +kernel
theorem dX3_tell_1 : decode cX3_tell 1 = .ok (.getfield 12, 3) := by decide +kernel
theorem dX3_tell_4 : decode cX3_tell 4 = .ok (.invokevirtual 26, 3) := by decide +kernel
theorem dX3_tell_7 : decode cX3_tell 7 = .ok (.aload_n 0, 1) := by decide +kernel
theorem dX3_tell_8 : decode cX3_tell 8 = .ok (.iconst 0, 1) := by decide +kernel
theorem dX3_tell_9 : decode cX3_tell 9 = .ok (.putfield 29, 3) := by decide +kernel
theorem dX3_tell_12 : decode cX3_tell 12 = .ok (.aload_n 0, 1) := by decide +kernel
theorem dX3_tell_13 : decode cX3_tell 13 = .ok (.iconst 0, 1) := by decide +kernel
theorem dX3_tell_14 : decode cX3_tell 14 = .ok (.putfield 32, 3) := by decide +kernel
theorem dX3_tell_17 : decode cX3_tell 17 = .ok (.aload_n 0, 1) := by decide +kernel
theorem dX3_tell_18 : decode cX3_tell 18 = .ok (.iconst 0, 1) := by decide +kernel
theorem dX3_tell_19 : decode cX3_tell 19 = .ok (.putfield 35, 3) := by decide +kernel
theorem dX3_tell_22 : decode cX3_tell 22 = .ok (.aload_n 0, 1) := by decide +kernel
theorem dX3_tell_23 : decode cX3_tell 23 = .ok (.iconst 0, 1) := by decide +kernel
theorem dX3_tell_24 : decode cX3_tell 24 = .ok (.putfield 39, 3) := by decide +kernel
theorem dX3_tell_27 : decode cX3_tell 27 = .ok (.aload_n 0, 1) := by decide +kernel
theorem dX3_tell_28 : decode cX3_tell 28 = .ok (.iconst 0, 1) := by decide +kernel
theorem dX3_tell_29 : decode cX3_tell 29 = .ok (.putfield 42, 3) := by decide +kernel
theorem dX3_tell_32 : decode cX3_tell 32 = .ok (.aload_n 0, 1) := by decide +kernel
theorem dX3_tell_33 : decode cX3_tell 33 = .ok (.iconst 0, 1) := by decide +kernel
theorem dX3_tell_34 : decode cX3_tell 34 = .ok (.putfield 45, 3) := by decide +kernel
theorem dX3_tell_37 : decode cX3_tell 37 = .ok (.iconst 0, 1) := by decide +kernel
theorem dX3_tell_38 : decode cX3_tell 38 = .ok (.istore_n 1, 1) := by decide +kernel
theorem dX3_tell_39 : decode cX3_tell 39 = .ok (.iload_n 1, 1) := by decide +kernel
theorem dX3_tell_40 : decode cX3_tell 40 = .ok (.aload_n 0, 1) := by decide +kernel
theorem dX3_tell_41 : decode cX3_tell 41 = .ok (.getfield 22, 3) := by decide +kernel
theorem dX3_tell_44 : decode cX3_tell 44 = .ok (.if_icmp .gt 30, 3) := by decide +kernel
theorem dX3_tell_47 : decode cX3_tell 47 = .ok (.aload_n 0, 1) := by decide +kernel
theorem dX3_tell_48 : decode cX3_tell 48 = .ok (.invokevirtual 48, 3) := by decide +kernel
theorem dX3_tell_51 : decode cX3_tell 51 = .ok (.ifCond .eq 23, 3) := by decide +kernel
theorem dX3_tell_54 : decode cX3_tell 54 = .ok (.aload_n 0, 1) := by decide +kernel
theorem dX3_tell_55 : decode cX3_tell 55 = .ok (.getfield 52, 3) := by decide +kernel
theorem dX3_tell_58 : decode cX3_tell 58 = .ok (.ifCond .eq 16, 3) := by decide +kernel
theorem dX3_tell_61 : decode cX3_tell 61 = .ok (.aload_n 0, 1) := by decide +kernel
theorem dX3_tell_62 : decode cX3_tell 62 = .ok (.invokevirtual 55, 3) := by decide +kernel
theorem dX3_tell_65 : decode cX3_tell 65 = .ok (.ifCond .eq 9, 3) := by decide +kernel
theorem dX3_tell_68 : decode cX3_tell 68 = .ok (.iinc 1 1, 3) := by decide +kernel
theorem dX3_tell_71 : decode cX3_tell 71 = .ok (.goto (-32), 3) := by decide +kernel
theorem dX3_tell_74 : decode cX3_tell 74 = .ok (.aload_n 0, 1) := by decide +kernel
theorem dX3_tell_75 : decode cX3_tell 75 = .ok (.getfield 32, 3) := by decide +kernel
theorem dX3_tell_78 : decode cX3_tell 78 = .ok (.ifCond .ne 7, 3) := by decide +kernel
theorem dX3_tell_81 : decode cX3_tell 81 = .ok (.aload_n 0, 1) := by decide +kernel
theorem dX3_tell_82 : decode cX3_tell 82 = .ok (.invokevirtual 58, 3) := by decide +kernel
theorem dX3_tell_85 : decode cX3_tell 85 = .ok (.iload_n 1, 1) := by decide +kernel
theorem dX3_tell_86 : decode cX3_tell 86 = .ok (.ireturn, 1) := by decide +kernel
theorem dX3_fail_0 : decode cX3_fail 0 = .ok (.aload_n 0, 1) := by decide +kernel
theorem dX3_fail_1 : decode cX3_fail 1 = .ok (.iload_n 1, 1) := by decide +kernel
theorem dX3_fail_2 : decode cX3_fail 2 = .ok (.putfield 32, 3) := by decide +kernel
theorem dX3_fail_5 : decode cX3_fail 5 = .ok (.aload_n 0, 1) := by decide +kernel
theorem dX3_fail_6 : decode cX3_fail 6 = .ok (.iload_n 2, 1) := by decide +kernel
theorem dX3_fail_7 : decode cX3_fail 7 = .ok (.putfield 61, 3) := by decide +kernel
theorem dX3_fail_10 : decode cX3_fail 10 = .ok (.iconst 0, 1) := by decide +kernel
theorem dX3_fail_11 : decode cX3_fail 11 = .ok (.ireturn, 1) := by decide +kernel
theorem dX3_lookBehind_0 : decode cX3_lookBehind 0 = .ok (.aload_n 0, 1) := by decide +kernel
theorem dX3_lookBehind_1 : decode cX3_lookBehind 1 = .ok (.getfield 39, 3) := by decide +kernel
theorem dX3_lookBehind_4 : decode cX3_lookBehind 4 = .ok (.aload_n 0, 1) := by decide +kernel
theorem dX3_lookBehind_5 : decode cX3_lookBehind 5 = .ok (.getfield 12, 3) := by decide +kernel
theorem dX3_lookBehind_8 : decode cX3_lookBehind 8 = .ok (.getfield 64, 3) := by decide +kernel
theorem dX3_lookBehind_11 : decode cX3_lookBehind 11 = .ok (.ishr, 1) := by decide +kernel
theorem dX3_lookBehind_12 : decode cX3_lookBehind 12 = .ok (.ifCond .eq 17, 3) := by decide +kernel
theorem dX3_lookBehind_15 : decode cX3_lookBehind 15 = .ok (.aload_n 0, 1) := by decide +kernel
theorem dX3_lookBehind_16 : decode cX3_lookBehind 16 = .ok (.bipush 6, 2) := by decide +kernel
theorem dX3_lookBehind_18 : decode cX3_lookBehind 18 = .ok (.aload_n 0, 1) := by decide +kernel
theorem dX3_lookBehind_19 : decode cX3_lookBehind 19 = .ok (.getfield 22, 3) := by decide +kernel
theorem dX3_lookBehind_22 : decode cX3_lookBehind 22 = .ok (.invokevirtual 67, 3) := by decide +kernel
theorem dX3_lookBehind_25 : decode cX3_lookBehind 25 = .ok (.pop, 1) := by decide +kernel
theorem dX3_lookBehind_26 : decode cX3_lookBehind 26 = .ok (.goto 29, 3) := by decide +kernel
theorem dX3_lookBehind_29 : decode cX3_lookBehind 29 = .ok (.aload_n 0, 1) := by decide +kernel
theorem dX3_lookBehind_30 : decode cX3_lookBehind 30 = .ok (.getfield 42, 3) := by decide +kernel
theorem dX3_lookBehind_33 : decode cX3_lookBehind 33 = .ok (.aload_n 0, 1) := by decide +kernel
theorem dX3_lookBehind_34 : decode cX3_lookBehind 34 = .ok (.getfield 12, 3) := by decide +kernel
theorem dX3_lookBehind_37 : decode cX3_lookBehind 37 = .ok (.getfield 71, 3) := by decide +kernel
theorem dX3_lookBehind_40 : decode cX3_lookBehind 40 = .ok (.ishr, 1) := by decide +kernel
theorem dX3_lookBehind_41 : decode cX3_lookBehind 41 = .ok (.ifCond .eq 14, 3) := by decide +kernel
theorem dX3_lookBehind_44 : decode cX3_lookBehind 44 = .ok (.aload_n 0, 1) := by decide +kernel
theorem dX3_lookBehind_45 : decode cX3_lookBehind 45 = .ok (.bipush 7, 2) := by decide +kernel
theorem dX3_lookBehind_47 : decode cX3_lookBehind 47 = .ok (.aload_n 0, 1) := by decide +kernel
theorem dX3_lookBehind_48 : decode cX3_lookBehind 48 = .ok (.getfield 22, 3) := by decide +kernel
theorem dX3_lookBehind_51 : decode cX3_lookBehind 51 = .ok (.invokevirtual 67, 3) := by decide +kernel
theorem dX3_lookBehind_54 : decode cX3_lookBehind 54 = .ok (.pop, 1) := by decide +kernel
theorem dX3_lookBehind_55 : decode cX3_lookBehind 55 = .ok (.return_, 1) := by decide +kernel
theorem dX3_takeToken_0 : decode cX3_takeToken 0 = .ok (.aload_n 0, 1) := by decide +kernel
theorem dX3_takeToken_1 : decode cX3_takeToken 1 = .ok (.getfield 29, 3) := by decide +kernel
theorem dX3_takeToken_4 : decode cX3_takeToken 4 = .ok (.aload_n 0, 1) := by decide +kernel
theorem dX3_takeToken_5 : decode cX3_takeToken 5 = .ok (.getfield 22, 3) := by decide +kernel
theorem dX3_takeToken_8 : decode cX3_takeToken 8 = .ok (.if_icmp .ge 30, 3) := by decide +kernel
theorem dX3_takeToken_11 : decode cX3_takeToken 11 = .ok (.aload_n 0, 1) := by decide +kernel
theorem dX3_takeToken_12 : decode cX3_takeToken 12 = .ok (.getfield 18, 3) := by decide +kernel
theorem dX3_takeToken_15 : decode cX3_takeToken 15 = .ok (.aload_n 0, 1) := by decide +kernel
theorem dX3_takeToken_16 : decode cX3_takeToken 16 = .ok (.getfield 29, 3) := by decide +kernel
theorem dX3_takeToken_19 : decode cX3_takeToken 19 = .ok (.baload, 1) := by decide +kernel
theorem dX3_takeToken_20 : decode cX3_takeToken 20 = .ok (.bipush 32, 2) := by decide +kernel
theorem dX3_takeToken_22 : decode cX3_takeToken 22 = .ok (.if_icmp .ne 16, 3) := by decide +kernel
theorem dX3_takeToken_25 : decode cX3_takeToken 25 = .ok (.aload_n 0, 1) := by decide +kernel
theorem dX3_takeToken_26 : decode cX3_takeToken 26 = .ok (.dup, 1) := by decide +kernel
theorem dX3_takeToken_27 : decode cX3_takeToken 27 = .ok (.getfield 29, 3) := by decide +kernel
theorem dX3_takeToken_30 : decode cX3_takeToken 30 = .ok (.iconst 1, 1) := by decide +kernel
theorem dX3_takeToken_31 : decode cX3_takeToken 31 = .ok (.iadd, 1) := by decide +kernel
theorem dX3_takeToken_32 : decode cX3_takeToken 32 = .ok (.putfield 29, 3) := by decide +kernel
theorem dX3_takeToken_35 : decode cX3_takeToken 35 = .ok (.goto (-35), 3) := by decide +kernel
theorem dX3_takeToken_38 : decode cX3_takeToken 38 = .ok (.aload_n 0, 1) := by decide +kernel
theorem dX3_takeToken_39 : decode cX3_takeToken 39 = .ok (.aload_n 0, 1) := by decide +kernel
theorem dX3_takeToken_40 : decode cX3_takeToken 40 = .ok (.getfield 29, 3) := by decide +kernel
theorem dX3_takeToken_43 : decode cX3_takeToken 43 = .ok (.putfield 74, 3) := by decide +kernel
theorem dX3_takeToken_46 : decode cX3_takeToken 46 = .ok (.aload_n 0, 1) := by decide +kernel
theorem dX3_takeToken_47 : decode cX3_takeToken 47 = .ok (.getfield 29, 3) := by decide +kernel
theorem dX3_takeToken_50 : decode cX3_takeToken 50 = .ok (.aload_n 0, 1) := by decide +kernel
theorem dX3_takeToken_51 : decode cX3_takeToken 51 = .ok (.getfield 22, 3) := by decide +kernel
theorem dX3_takeToken_54 : decode cX3_takeToken 54 = .ok (.if_icmp .lt 10, 3) := by decide +kernel
theorem dX3_takeToken_57 : decode cX3_takeToken 57 = .ok (.aload_n 0, 1) := by decide +kernel
theorem dX3_takeToken_58 : decode cX3_takeToken 58 = .ok (.iconst 0, 1) := by decide +kernel
theorem dX3_takeToken_59 : decode cX3_takeToken 59 = .ok (.putfield 52, 3) := by decide +kernel
theorem dX3_takeToken_62 : decode cX3_takeToken 62 = .ok (.iconst 1, 1) := by decide +kernel
theorem dX3_takeToken_63 : decode cX3_takeToken 63 = .ok (.ireturn, 1) := by decide +kernel
theorem dX3_takeToken_64 : decode cX3_takeToken 64 = .ok (.aload_n 0, 1) := by decide +kernel
theorem dX3_takeToken_65 : decode cX3_takeToken 65 = .ok (.getfield 18, 3) := by decide +kernel
theorem dX3_takeToken_68 : decode cX3_takeToken 68 = .ok (.aload_n 0, 1) := by decide +kernel
theorem dX3_takeToken_69 : decode cX3_takeToken 69 = .ok (.getfield 29, 3) := by decide +kernel
theorem dX3_takeToken_72 : decode cX3_takeToken 72 = .ok (.baload, 1) := by decide +kernel
theorem dX3_takeToken_73 : decode cX3_takeToken 73 = .ok (.invokestatic 77, 3) := by decide +kernel
theorem dX3_takeToken_76 : decode cX3_takeToken 76 = .ok (.ifCond .eq 49, 3) := by decide +kernel
theorem dX3_takeToken_79 : decode cX3_takeToken 79 = .ok (.aload_n 0, 1) := by decide +kernel
theorem dX3_takeToken_80 : decode cX3_takeToken 80 = .ok (.iconst 1, 1) := by decide +kernel
theorem dX3_takeToken_81 : decode cX3_takeToken 81 = .ok (.putfield 52, 3) := by decide +kernel
theorem dX3_takeToken_84 : decode cX3_takeToken 84 = .ok (.aload_n 0, 1) := by decide +kernel
theorem dX3_takeToken_85 : decode cX3_takeToken 85 = .ok (.getfield 29, 3) := by decide +kernel
theorem dX3_takeToken_88 : decode cX3_takeToken 88 = .ok (.aload_n 0, 1) := by decide +kernel
theorem dX3_takeToken_89 : decode cX3_takeToken 89 = .ok (.getfield 22, 3) := by decide +kernel
theorem dX3_takeToken_92 : decode cX3_takeToken 92 = .ok (.if_icmp .ge 31, 3) := by decide +kernel
theorem dX3_takeToken_95 : decode cX3_takeToken 95 = .ok (.aload_n 0, 1) := by decide +kernel
theorem dX3_takeToken_96 : decode cX3_takeToken 96 = .ok (.getfield 18, 3) := by decide +kernel
theorem dX3_takeToken_99 : decode cX3_takeToken 99 = .ok (.aload_n 0, 1) := by decide +kernel
theorem dX3_takeToken_100 : decode cX3_takeToken 100 = .ok (.getfield 29, 3) := by decide +kernel
theorem dX3_takeToken_103 : decode cX3_takeToken 103 = .ok (.baload, 1) := by decide +kernel
theorem dX3_takeToken_104 : decode cX3_takeToken 104 = .ok (.invokestatic 77, 3) := by decide +kernel
theorem dX3_takeToken_107 : decode cX3_takeToken 107 = .ok (.ifCond .eq 16, 3) := by decide +kernel
theorem dX3_takeToken_110 : decode cX3_takeToken 110 = .ok (.aload_n 0, 1) := by decide +kernel
theorem dX3_takeToken_111 : decode cX3_takeToken 111 = .ok (.dup, 1) := by decide +kernel
theorem dX3_takeToken_112 : decode cX3_takeToken 112 = .ok (.getfield 29, 3) := by decide +kernel
theorem dX3_takeToken_115 : decode cX3_takeToken 115 = .ok (.iconst 1, 1) := by decide +kernel
theorem dX3_takeToken_116 : decode cX3_takeToken 116 = .ok (.iadd, 1) := by decide +kernel
theorem dX3_takeToken_117 : decode cX3_takeToken 117 = .ok (.putfield 29, 3) := by decide +kernel
theorem dX3_takeToken_120 : decode cX3_takeToken 120 = .ok (.goto (-36), 3) := by decide +kernel
theorem dX3_takeToken_123 : decode cX3_takeToken 123 = .ok (.iconst 1, 1) := by decide +kernel
theorem dX3_takeToken_124 : decode cX3_takeToken 124 = .ok (.ireturn, 1) := by decide +kernel
theorem dX3_takeToken_125 : decode cX3_takeToken 125 = .ok (.aload_n 0, 1) := by decide +kernel
theorem dX3_takeToken_126 : decode cX3_takeToken 126 = .ok (.getfield 18, 3) := by decide +kernel
theorem dX3_takeToken_129 : decode cX3_takeToken 129 = .ok (.aload_n 0, 1) := by decide +kernel
theorem dX3_takeToken_130 : decode cX3_takeToken 130 = .ok (.getfield 29, 3) := by decide +kernel
theorem dX3_takeToken_133 : decode cX3_takeToken 133 = .ok (.baload, 1) := by decide +kernel
theorem dX3_takeToken_134 : decode cX3_takeToken 134 = .ok (.invokestatic 81, 3) := by decide +kernel
theorem dX3_takeToken_137 : decode cX3_takeToken 137 = .ok (.ifCond .eq 107, 3) := by decide +kernel
theorem dX3_takeToken_140 : decode cX3_takeToken 140 = .ok (.aload_n 0, 1) := by decide +kernel
theorem dX3_takeToken_141 : decode cX3_takeToken 141 = .ok (.iconst 2, 1) := by decide +kernel
theorem dX3_takeToken_142 : decode cX3_takeToken 142 = .ok (.putfield 52, 3) := by decide +kernel
theorem dX3_takeToken_145 : decode cX3_takeToken 145 = .ok (.aload_n 0, 1) := by decide +kernel
theorem dX3_takeToken_146 : decode cX3_takeToken 146 = .ok (.iconst 0, 1) := by decide +kernel
theorem dX3_takeToken_147 : decode cX3_takeToken 147 = .ok (.putfield 84, 3) := by decide +kernel
theorem dX3_takeToken_150 : decode cX3_takeToken 150 = .ok (.aload_n 0, 1) := by decide +kernel
theorem dX3_takeToken_151 : decode cX3_takeToken 151 = .ok (.getfield 29, 3) := by decide +kernel
theorem dX3_takeToken_154 : decode cX3_takeToken 154 = .ok (.aload_n 0, 1) := by decide +kernel
theorem dX3_takeToken_155 : decode cX3_takeToken 155 = .ok (.getfield 22, 3) := by decide +kernel
theorem dX3_takeToken_158 : decode cX3_takeToken 158 = .ok (.if_icmp .ge 55, 3) := by decide +kernel
theorem dX3_takeToken_161 : decode cX3_takeToken 161 = .ok (.aload_n 0, 1) := by decide +kernel
theorem dX3_takeToken_162 : decode cX3_takeToken 162 = .ok (.getfield 18, 3) := by decide +kernel
theorem dX3_takeToken_165 : decode cX3_takeToken 165 = .ok (.aload_n 0, 1) := by decide +kernel
theorem dX3_takeToken_166 : decode cX3_takeToken 166 = .ok (.getfield 29, 3) := by decide +kernel
theorem dX3_takeToken_169 : decode cX3_takeToken 169 = .ok (.baload, 1) := by decide +kernel
theorem dX3_takeToken_170 : decode cX3_takeToken 170 = .ok (.invokestatic 81, 3) := by decide +kernel
theorem dX3_takeToken_173 : decode cX3_takeToken 173 = .ok (.ifCond .eq 40, 3) := by decide +kernel
theorem dX3_takeToken_176 : decode cX3_takeToken 176 = .ok (.aload_n 0, 1) := by decide +kernel
theorem dX3_takeToken_177 : decode cX3_takeToken 177 = .ok (.aload_n 0, 1) := by decide +kernel
theorem dX3_takeToken_178 : decode cX3_takeToken 178 = .ok (.getfield 84, 3) := by decide +kernel
theorem dX3_takeToken_181 : decode cX3_takeToken 181 = .ok (.bipush 10, 2) := by decide +kernel
theorem dX3_takeToken_183 : decode cX3_takeToken 183 = .ok (.imul, 1) := by decide +kernel
theorem dX3_takeToken_184 : decode cX3_takeToken 184 = .ok (.aload_n 0, 1) := by decide +kernel
theorem dX3_takeToken_185 : decode cX3_takeToken 185 = .ok (.getfield 18, 3) := by decide +kernel
theorem dX3_takeToken_188 : decode cX3_takeToken 188 = .ok (.aload_n 0, 1) := by decide +kernel
theorem dX3_takeToken_189 : decode cX3_takeToken 189 = .ok (.getfield 29, 3) := by decide +kernel
theorem dX3_takeToken_192 : decode cX3_takeToken 192 = .ok (.baload, 1) := by decide +kernel
theorem dX3_takeToken_193 : decode cX3_takeToken 193 = .ok (.iadd, 1) := by decide +kernel
theorem dX3_takeToken_194 : decode cX3_takeToken 194 = .ok (.bipush 48, 2) := by decide +kernel
theorem dX3_takeToken_196 : decode cX3_takeToken 196 = .ok (.isub, 1) := by decide +kernel
theorem dX3_takeToken_197 : decode cX3_takeToken 197 = .ok (.putfield 84, 3) := by decide +kernel
theorem dX3_takeToken_200 : decode cX3_takeToken 200 = .ok (.aload_n 0, 1) := by decide +kernel
theorem dX3_takeToken_201 : decode cX3_takeToken 201 = .ok (.dup, 1) := by decide +kernel
theorem dX3_takeToken_202 : decode cX3_takeToken 202 = .ok (.getfield 29, 3) := by decide +kernel
theorem dX3_takeToken_205 : decode cX3_takeToken 205 = .ok (.iconst 1, 1) := by decide +kernel
theorem dX3_takeToken_206 : decode cX3_takeToken 206 = .ok (.iadd, 1) := by decide +kernel
theorem dX3_takeToken_207 : decode cX3_takeToken 207 = .ok (.putfield 29, 3) := by decide +kernel
theorem dX3_takeToken_210 : decode cX3_takeToken 210 = .ok (.goto (-60), 3) := by decide +kernel
theorem dX3_takeToken_213 : decode cX3_takeToken 213 = .ok (.aload_n 0, 1) := by decide +kernel
theorem dX3_takeToken_214 : decode cX3_takeToken 214 = .ok (.getfield 29, 3) := by decide +kernel
theorem dX3_takeToken_217 : decode cX3_takeToken 217 = .ok (.aload_n 0, 1) := by decide +kernel
theorem dX3_takeToken_218 : decode cX3_takeToken 218 = .ok (.getfield 74, 3) := by decide +kernel
theorem dX3_takeToken_221 : decode cX3_takeToken 221 = .ok (.isub, 1) := by decide +kernel
theorem dX3_takeToken_222 : decode cX3_takeToken 222 = .ok (.iconst 2, 1) := by decide +kernel
theorem dX3_takeToken_223 : decode cX3_takeToken 223 = .ok (.if_icmp .le 15, 3) := by decide +kernel
theorem dX3_takeToken_226 : decode cX3_takeToken 226 = .ok (.aload_n 0, 1) := by decide +kernel
theorem dX3_takeToken_227 : decode cX3_takeToken 227 = .ok (.iconst 1, 1) := by decide +kernel
theorem dX3_takeToken_228 : decode cX3_takeToken 228 = .ok (.aload_n 0, 1) := by decide +kernel
theorem dX3_takeToken_229 : decode cX3_takeToken 229 = .ok (.getfield 74, 3) := by decide +kernel
theorem dX3_takeToken_232 : decode cX3_takeToken 232 = .ok (.invokevirtual 67, 3) := by decide +kernel
theorem dX3_takeToken_235 : decode cX3_takeToken 235 = .ok (.ifCond .eq 7, 3) := by decide +kernel
theorem dX3_takeToken_238 : decode cX3_takeToken 238 = .ok (.iconst 1, 1) := by decide +kernel
theorem dX3_takeToken_239 : decode cX3_takeToken 239 = .ok (.goto 4, 3) := by decide +kernel
theorem dX3_takeToken_242 : decode cX3_takeToken 242 = .ok (.iconst 0, 1) := by decide +kernel
theorem dX3_takeToken_243 : decode cX3_takeToken 243 = .ok (.ireturn, 1) := by decide +kernel
theorem dX3_takeToken_244 : decode cX3_takeToken 244 = .ok (.aload_n 0, 1) := by decide +kernel
theorem dX3_takeToken_245 : decode cX3_takeToken 245 = .ok (.iconst 3, 1) := by decide +kernel
theorem dX3_takeToken_246 : decode cX3_takeToken 246 = .ok (.putfield 52, 3) := by decide +kernel
theorem dX3_takeToken_249 : decode cX3_takeToken 249 = .ok (.aload_n 0, 1) := by decide +kernel
theorem dX3_takeToken_250 : decode cX3_takeToken 250 = .ok (.dup, 1) := by decide +kernel
theorem dX3_takeToken_251 : decode cX3_takeToken 251 = .ok (.getfield 29, 3) := by decide +kernel
theorem dX3_takeToken_254 : decode cX3_takeToken 254 = .ok (.iconst 1, 1) := by decide +kernel
theorem dX3_takeToken_255 : decode cX3_takeToken 255 = .ok (.iadd, 1) := by decide +kernel
theorem dX3_takeToken_256 : decode cX3_takeToken 256 = .ok (.putfield 29, 3) := by decide +kernel
theorem dX3_takeToken_259 : decode cX3_takeToken 259 = .ok (.aload_n 0, 1) := by decide +kernel
theorem dX3_takeToken_260 : decode cX3_takeToken 260 = .ok (.getfield 18, 3) := by decide +kernel
theorem dX3_takeToken_263 : decode cX3_takeToken 263 = .ok (.aload_n 0, 1) := by decide +kernel
theorem dX3_takeToken_264 : decode cX3_takeToken 264 = .ok (.getfield 74, 3) := by decide +kernel
theorem dX3_takeToken_267 : decode cX3_takeToken 267 = .ok (.baload, 1) := by decide +kernel
theorem dX3_takeToken_268 : decode cX3_takeToken 268 = .ok (.bipush 59, 2) := by decide +kernel
theorem dX3_takeToken_270 : decode cX3_takeToken 270 = .ok (.if_icmp .eq 15, 3) := by decide +kernel
theorem dX3_takeToken_273 : decode cX3_takeToken 273 = .ok (.aload_n 0, 1) := by decide +kernel
theorem dX3_takeToken_274 : decode cX3_takeToken 274 = .ok (.iconst 1, 1) := by decide +kernel
theorem dX3_takeToken_275 : decode cX3_takeToken 275 = .ok (.aload_n 0, 1) := by decide +kernel
theorem dX3_takeToken_276 : decode cX3_takeToken 276 = .ok (.getfield 74, 3) := by decide +kernel
theorem dX3_takeToken_279 : decode cX3_takeToken 279 = .ok (.invokevirtual 67, 3) := by decide +kernel
theorem dX3_takeToken_282 : decode cX3_takeToken 282 = .ok (.ifCond .eq 7, 3) := by decide +kernel
theorem dX3_takeToken_285 : decode cX3_takeToken 285 = .ok (.iconst 1, 1) := by decide +kernel
theorem dX3_takeToken_286 : decode cX3_takeToken 286 = .ok (.goto 4, 3) := by decide +kernel
theorem dX3_takeToken_289 : decode cX3_takeToken 289 = .ok (.iconst 0, 1) := by decide +kernel
theorem dX3_takeToken_290 : decode cX3_takeToken 290 = .ok (.ireturn, 1) := by decide +kernel
theorem dX3_isLetter_0 : decode cX3_isLetter 0 = .ok (.iload_n 0, 1) := by decide +kernel
theorem dX3_isLetter_1 : decode cX3_isLetter 1 = .ok (.bipush 97, 2) := by decide +kernel
theorem dX3_isLetter_3 : decode cX3_isLetter 3 = .ok (.if_icmp .lt 13, 3) := by decide +kernel
theorem dX3_isLetter_6 : decode cX3_isLetter 6 = .ok (.iload_n 0, 1) := by decide +kernel
theorem dX3_isLetter_7 : decode cX3_isLetter 7 = .ok (.bipush 122, 2) := by decide +kernel
theorem dX3_isLetter_9 : decode cX3_isLetter 9 = .ok (.if_icmp .gt 7, 3) := by decide +kernel
theorem dX3_isLetter_12 : decode cX3_isLetter 12 = .ok (.iconst 1, 1) := by decide +kernel
theorem dX3_isLetter_13 : decode cX3_isLetter 13 = .ok (.goto 4, 3) := by decide +kernel
theorem dX3_isLetter_16 : decode cX3_isLetter 16 = .ok (.iconst 0, 1) := by decide +kernel
theorem dX3_isLetter_17 : decode cX3_isLetter 17 = .ok (.ireturn, 1) := by decide +kernel
theorem dX3_isFigure_0 : decode cX3_isFigure 0 = .ok (.iload_n 0, 1) := by decide +kernel
theorem dX3_isFigure_1 : decode cX3_isFigure 1 = .ok (.bipush 48, 2) := by decide +kernel
theorem dX3_isFigure_3 : decode cX3_isFigure 3 = .ok (.if_icmp .lt 13, 3) := by decide +kernel
theorem dX3_isFigure_6 : decode cX3_isFigure 6 = .ok (.iload_n 0, 1) := by decide +kernel
theorem dX3_isFigure_7 : decode cX3_isFigure 7 = .ok (.bipush 57, 2) := by decide +kernel
theorem dX3_isFigure_9 : decode cX3_isFigure 9 = .ok (.if_icmp .gt 7, 3) := by decide +kernel
theorem dX3_isFigure_12 : decode cX3_isFigure 12 = .ok (.iconst 1, 1) := by decide +kernel
theorem dX3_isFigure_13 : decode cX3_isFigure 13 = .ok (.goto 4, 3) := by decide +kernel
theorem dX3_isFigure_16 : decode cX3_isFigure 16 = .ok (.iconst 0, 1) := by decide +kernel
theorem dX3_isFigure_17 : decode cX3_isFigure 17 = .ok (.ireturn, 1) := by decide +kernel
theorem dX3_isName_0 : decode cX3_isName 0 = .ok (.aload_n 0, 1) := by decide +kernel
theorem dX3_isName_1 : decode cX3_isName 1 = .ok (.getfield 52, 3) := by decide +kernel
theorem dX3_isName_4 : decode cX3_isName 4 = .ok (.iconst 1, 1) := by decide +kernel
theorem dX3_isName_5 : decode cX3_isName 5 = .ok (.if_icmp .ne 19, 3) := by decide +kernel
theorem dX3_isName_8 : decode cX3_isName 8 = .ok (.aload_n 0, 1) := by decide +kernel
theorem dX3_isName_9 : decode cX3_isName 9 = .ok (.getfield 29, 3) := by decide +kernel
theorem dX3_isName_12 : decode cX3_isName 12 = .ok (.aload_n 0, 1) := by decide +kernel
theorem dX3_isName_13 : decode cX3_isName 13 = .ok (.getfield 74, 3) := by decide +kernel
theorem dX3_isName_16 : decode cX3_isName 16 = .ok (.isub, 1) := by decide +kernel
theorem dX3_isName_17 : decode cX3_isName 17 = .ok (.aload_n 1, 1) := by decide +kernel
theorem dX3_isName_18 : decode cX3_isName 18 = .ok (.invokevirtual 87, 3) := by decide +kernel
theorem dX3_isName_21 : decode cX3_isName 21 = .ok (.if_icmp .eq 5, 3) := by decide +kernel
theorem dX3_isName_24 : decode cX3_isName 24 = .ok (.iconst 0, 1) := by decide +kernel
theorem dX3_isName_25 : decode cX3_isName 25 = .ok (.ireturn, 1) := by decide +kernel
theorem dX3_isName_26 : decode cX3_isName 26 = .ok (.iconst 0, 1) := by decide +kernel
theorem dX3_isName_27 : decode cX3_isName 27 = .ok (.istore_n 2, 1) := by decide +kernel
theorem dX3_isName_28 : decode cX3_isName 28 = .ok (.iload_n 2, 1) := by decide +kernel
theorem dX3_isName_29 : decode cX3_isName 29 = .ok (.aload_n 1, 1) := by decide +kernel
theorem dX3_isName_30 : decode cX3_isName 30 = .ok (.invokevirtual 87, 3) := by decide +kernel
theorem dX3_isName_33 : decode cX3_isName 33 = .ok (.if_icmp .ge 30, 3) := by decide +kernel
theorem dX3_isName_36 : decode cX3_isName 36 = .ok (.aload_n 0, 1) := by decide +kernel
theorem dX3_isName_37 : decode cX3_isName 37 = .ok (.getfield 18, 3) := by decide +kernel
theorem dX3_isName_40 : decode cX3_isName 40 = .ok (.aload_n 0, 1) := by decide +kernel
theorem dX3_isName_41 : decode cX3_isName 41 = .ok (.getfield 74, 3) := by decide +kernel
theorem dX3_isName_44 : decode cX3_isName 44 = .ok (.iload_n 2, 1) := by decide +kernel
theorem dX3_isName_45 : decode cX3_isName 45 = .ok (.iadd, 1) := by decide +kernel
theorem dX3_isName_46 : decode cX3_isName 46 = .ok (.baload, 1) := by decide +kernel
theorem dX3_isName_47 : decode cX3_isName 47 = .ok (.aload_n 1, 1) := by decide +kernel
theorem dX3_isName_48 : decode cX3_isName 48 = .ok (.iload_n 2, 1) := by decide +kernel
theorem dX3_isName_49 : decode cX3_isName 49 = .ok (.invokevirtual 92, 3) := by decide +kernel
theorem dX3_isName_52 : decode cX3_isName 52 = .ok (.if_icmp .eq 5, 3) := by decide +kernel
theorem dX3_isName_55 : decode cX3_isName 55 = .ok (.iconst 0, 1) := by decide +kernel
theorem dX3_isName_56 : decode cX3_isName 56 = .ok (.ireturn, 1) := by decide +kernel
theorem dX3_isName_57 : decode cX3_isName 57 = .ok (.iinc 2 1, 3) := by decide +kernel
theorem dX3_isName_60 : decode cX3_isName 60 = .ok (.goto (-32), 3) := by decide +kernel
theorem dX3_isName_63 : decode cX3_isName 63 = .ok (.iconst 1, 1) := by decide +kernel
theorem dX3_isName_64 : decode cX3_isName 64 = .ok (.ireturn, 1) := by decide +kernel
theorem dX3_takeLine_0 : decode cX3_takeLine 0 = .ok (.aload_n 0, 1) := by decide +kernel
theorem dX3_takeLine_1 : decode cX3_takeLine 1 = .ok (.ldc 96, 2) := by decide +kernel
theorem dX3_takeLine_3 : decode cX3_takeLine 3 = .ok (.invokevirtual 98, 3) := by decide +kernel
theorem dX3_takeLine_6 : decode cX3_takeLine 6 = .ok (.ifCond .eq 8, 3) := by decide +kernel
theorem dX3_takeLine_9 : decode cX3_takeLine 9 = .ok (.aload_n 0, 1) := by decide +kernel
theorem dX3_takeLine_10 : decode cX3_takeLine 10 = .ok (.invokevirtual 102, 3) := by decide +kernel
theorem dX3_takeLine_13 : decode cX3_takeLine 13 = .ok (.ireturn, 1) := by decide +kernel
theorem dX3_takeLine_14 : decode cX3_takeLine 14 = .ok (.aload_n 0, 1) := by decide +kernel
theorem dX3_takeLine_15 : decode cX3_takeLine 15 = .ok (.ldc 105, 2) := by decide +kernel
theorem dX3_takeLine_17 : decode cX3_takeLine 17 = .ok (.invokevirtual 98, 3) := by decide +kernel
theorem dX3_takeLine_20 : decode cX3_takeLine 20 = .ok (.ifCond .eq 8, 3) := by decide +kernel
theorem dX3_takeLine_23 : decode cX3_takeLine 23 = .ok (.aload_n 0, 1) := by decide +kernel
theorem dX3_takeLine_24 : decode cX3_takeLine 24 = .ok (.invokevirtual 107, 3) := by decide +kernel
theorem dX3_takeLine_27 : decode cX3_takeLine 27 = .ok (.ireturn, 1) := by decide +kernel
theorem dX3_takeLine_28 : decode cX3_takeLine 28 = .ok (.aload_n 0, 1) := by decide +kernel
theorem dX3_takeLine_29 : decode cX3_takeLine 29 = .ok (.ldc 110, 2) := by decide +kernel
theorem dX3_takeLine_31 : decode cX3_takeLine 31 = .ok (.invokevirtual 98, 3) := by decide +kernel
theorem dX3_takeLine_34 : decode cX3_takeLine 34 = .ok (.ifCond .eq 9, 3) := by decide +kernel
theorem dX3_takeLine_37 : decode cX3_takeLine 37 = .ok (.aload_n 0, 1) := by decide +kernel
theorem dX3_takeLine_38 : decode cX3_takeLine 38 = .ok (.iconst 1, 1) := by decide +kernel
theorem dX3_takeLine_39 : decode cX3_takeLine 39 = .ok (.invokevirtual 112, 3) := by decide +kernel
theorem dX3_takeLine_42 : decode cX3_takeLine 42 = .ok (.ireturn, 1) := by decide +kernel
theorem dX3_takeLine_43 : decode cX3_takeLine 43 = .ok (.aload_n 0, 1) := by decide +kernel
theorem dX3_takeLine_44 : decode cX3_takeLine 44 = .ok (.ldc 115, 2) := by decide +kernel
theorem dX3_takeLine_46 : decode cX3_takeLine 46 = .ok (.invokevirtual 98, 3) := by decide +kernel
theorem dX3_takeLine_49 : decode cX3_takeLine 49 = .ok (.ifCond .eq 9, 3) := by decide +kernel
theorem dX3_takeLine_52 : decode cX3_takeLine 52 = .ok (.aload_n 0, 1) := by decide +kernel
theorem dX3_takeLine_53 : decode cX3_takeLine 53 = .ok (.iconst (-1), 1) := by decide +kernel
theorem dX3_takeLine_54 : decode cX3_takeLine 54 = .ok (.invokevirtual 112, 3) := by decide +kernel
theorem dX3_takeLine_57 : decode cX3_takeLine 57 = .ok (.ireturn, 1) := by decide +kernel
theorem dX3_takeLine_58 : decode cX3_takeLine 58 = .ok (.aload_n 0, 1) := by decide +kernel
theorem dX3_takeLine_59 : decode cX3_takeLine 59 = .ok (.ldc 117, 2) := by decide +kernel
theorem dX3_takeLine_61 : decode cX3_takeLine 61 = .ok (.invokevirtual 98, 3) := by decide +kernel
theorem dX3_takeLine_64 : decode cX3_takeLine 64 = .ok (.ifCond .eq 8, 3) := by decide +kernel
theorem dX3_takeLine_67 : decode cX3_takeLine 67 = .ok (.aload_n 0, 1) := by decide +kernel
theorem dX3_takeLine_68 : decode cX3_takeLine 68 = .ok (.invokevirtual 119, 3) := by decide +kernel
theorem dX3_takeLine_71 : decode cX3_takeLine 71 = .ok (.ireturn, 1) := by decide +kernel
theorem dX3_takeLine_72 : decode cX3_takeLine 72 = .ok (.aload_n 0, 1) := by decide +kernel
theorem dX3_takeLine_73 : decode cX3_takeLine 73 = .ok (.ldc 122, 2) := by decide +kernel
theorem dX3_takeLine_75 : decode cX3_takeLine 75 = .ok (.invokevirtual 98, 3) := by decide +kernel
theorem dX3_takeLine_78 : decode cX3_takeLine 78 = .ok (.ifCond .eq 8, 3) := by decide +kernel
theorem dX3_takeLine_81 : decode cX3_takeLine 81 = .ok (.aload_n 0, 1) := by decide +kernel
theorem dX3_takeLine_82 : decode cX3_takeLine 82 = .ok (.invokevirtual 124, 3) := by decide +kernel
theorem dX3_takeLine_85 : decode cX3_takeLine 85 = .ok (.ireturn, 1) := by decide +kernel
theorem dX3_takeLine_86 : decode cX3_takeLine 86 = .ok (.aload_n 0, 1) := by decide +kernel
theorem dX3_takeLine_87 : decode cX3_takeLine 87 = .ok (.ldc 127, 2) := by decide +kernel
theorem dX3_takeLine_89 : decode cX3_takeLine 89 = .ok (.invokevirtual 98, 3) := by decide +kernel
theorem dX3_takeLine_92 : decode cX3_takeLine 92 = .ok (.ifCond .eq 10, 3) := by decide +kernel
theorem dX3_takeLine_95 : decode cX3_takeLine 95 = .ok (.aload_n 0, 1) := by decide +kernel
theorem dX3_takeLine_96 : decode cX3_takeLine 96 = .ok (.invokevirtual 129, 3) := by decide +kernel
theorem dX3_takeLine_99 : decode cX3_takeLine 99 = .ok (.goto 12, 3) := by decide +kernel
theorem dX3_takeLine_102 : decode cX3_takeLine 102 = .ok (.aload_n 0, 1) := by decide +kernel
theorem dX3_takeLine_103 : decode cX3_takeLine 103 = .ok (.iconst 2, 1) := by decide +kernel
theorem dX3_takeLine_104 : decode cX3_takeLine 104 = .ok (.aload_n 0, 1) := by decide +kernel
theorem dX3_takeLine_105 : decode cX3_takeLine 105 = .ok (.getfield 74, 3) := by decide +kernel
theorem dX3_takeLine_108 : decode cX3_takeLine 108 = .ok (.invokevirtual 67, 3) := by decide +kernel
theorem dX3_takeLine_111 : decode cX3_takeLine 111 = .ok (.ireturn, 1) := by decide +kernel
theorem dX3_takeStreet_0 : decode cX3_takeStreet 0 = .ok (.aload_n 0, 1) := by decide +kernel
theorem dX3_takeStreet_1 : decode cX3_takeStreet 1 = .ok (.getfield 35, 3) := by decide +kernel
theorem dX3_takeStreet_4 : decode cX3_takeStreet 4 = .ok (.ifCond .eq 13, 3) := by decide +kernel
theorem dX3_takeStreet_7 : decode cX3_takeStreet 7 = .ok (.aload_n 0, 1) := by decide +kernel
theorem dX3_takeStreet_8 : decode cX3_takeStreet 8 = .ok (.iconst 4, 1) := by decide +kernel
theorem dX3_takeStreet_9 : decode cX3_takeStreet 9 = .ok (.aload_n 0, 1) := by decide +kernel
theorem dX3_takeStreet_10 : decode cX3_takeStreet 10 = .ok (.getfield 74, 3) := by decide +kernel
theorem dX3_takeStreet_13 : decode cX3_takeStreet 13 = .ok (.invokevirtual 67, 3) := by decide +kernel
theorem dX3_takeStreet_16 : decode cX3_takeStreet 16 = .ok (.ireturn, 1) := by decide +kernel
theorem dX3_takeStreet_17 : decode cX3_takeStreet 17 = .ok (.aload_n 0, 1) := by decide +kernel
theorem dX3_takeStreet_18 : decode cX3_takeStreet 18 = .ok (.iconst 1, 1) := by decide +kernel
theorem dX3_takeStreet_19 : decode cX3_takeStreet 19 = .ok (.putfield 35, 3) := by decide +kernel
theorem dX3_takeStreet_22 : decode cX3_takeStreet 22 = .ok (.aload_n 0, 1) := by decide +kernel
theorem dX3_takeStreet_23 : decode cX3_takeStreet 23 = .ok (.invokevirtual 48, 3) := by decide +kernel
theorem dX3_takeStreet_26 : decode cX3_takeStreet 26 = .ok (.ifCond .eq 13, 3) := by decide +kernel
theorem dX3_takeStreet_29 : decode cX3_takeStreet 29 = .ok (.aload_n 0, 1) := by decide +kernel
theorem dX3_takeStreet_30 : decode cX3_takeStreet 30 = .ok (.iconst 1, 1) := by decide +kernel
theorem dX3_takeStreet_31 : decode cX3_takeStreet 31 = .ok (.bipush 6, 2) := by decide +kernel
theorem dX3_takeStreet_33 : decode cX3_takeStreet 33 = .ok (.invokevirtual 132, 3) := by decide +kernel
theorem dX3_takeStreet_36 : decode cX3_takeStreet 36 = .ok (.ifCond .ne 5, 3) := by decide +kernel
theorem dX3_takeStreet_39 : decode cX3_takeStreet 39 = .ok (.iconst 0, 1) := by decide +kernel
theorem dX3_takeStreet_40 : decode cX3_takeStreet 40 = .ok (.ireturn, 1) := by decide +kernel
theorem dX3_takeStreet_41 : decode cX3_takeStreet 41 = .ok (.aload_n 0, 1) := by decide +kernel
theorem dX3_takeStreet_42 : decode cX3_takeStreet 42 = .ok (.getfield 12, 3) := by decide +kernel
theorem dX3_takeStreet_45 : decode cX3_takeStreet 45 = .ok (.aload_n 0, 1) := by decide +kernel
theorem dX3_takeStreet_46 : decode cX3_takeStreet 46 = .ok (.getfield 84, 3) := by decide +kernel
theorem dX3_takeStreet_49 : decode cX3_takeStreet 49 = .ok (.putfield 64, 3) := by decide +kernel
theorem dX3_takeStreet_52 : decode cX3_takeStreet 52 = .ok (.aload_n 0, 1) := by decide +kernel
theorem dX3_takeStreet_53 : decode cX3_takeStreet 53 = .ok (.invokevirtual 48, 3) := by decide +kernel
theorem dX3_takeStreet_56 : decode cX3_takeStreet 56 = .ok (.ifCond .eq 12, 3) := by decide +kernel
theorem dX3_takeStreet_59 : decode cX3_takeStreet 59 = .ok (.aload_n 0, 1) := by decide +kernel
theorem dX3_takeStreet_60 : decode cX3_takeStreet 60 = .ok (.iconst 1, 1) := by decide +kernel
theorem dX3_takeStreet_61 : decode cX3_takeStreet 61 = .ok (.iconst 4, 1) := by decide +kernel
theorem dX3_takeStreet_62 : decode cX3_takeStreet 62 = .ok (.invokevirtual 132, 3) := by decide +kernel
theorem dX3_takeStreet_65 : decode cX3_takeStreet 65 = .ok (.ifCond .ne 5, 3) := by decide +kernel
theorem dX3_takeStreet_68 : decode cX3_takeStreet 68 = .ok (.iconst 0, 1) := by decide +kernel
theorem dX3_takeStreet_69 : decode cX3_takeStreet 69 = .ok (.ireturn, 1) := by decide +kernel
theorem dX3_takeStreet_70 : decode cX3_takeStreet 70 = .ok (.aload_n 0, 1) := by decide +kernel
theorem dX3_takeStreet_71 : decode cX3_takeStreet 71 = .ok (.getfield 12, 3) := by decide +kernel
theorem dX3_takeStreet_74 : decode cX3_takeStreet 74 = .ok (.aload_n 0, 1) := by decide +kernel
theorem dX3_takeStreet_75 : decode cX3_takeStreet 75 = .ok (.getfield 84, 3) := by decide +kernel
theorem dX3_takeStreet_78 : decode cX3_takeStreet 78 = .ok (.putfield 71, 3) := by decide +kernel
theorem dX3_takeStreet_81 : decode cX3_takeStreet 81 = .ok (.aload_n 0, 1) := by decide +kernel
theorem dX3_takeStreet_82 : decode cX3_takeStreet 82 = .ok (.invokevirtual 135, 3) := by decide +kernel
theorem dX3_takeStreet_85 : decode cX3_takeStreet 85 = .ok (.ireturn, 1) := by decide +kernel
theorem dX3_takeRule_0 : decode cX3_takeRule 0 = .ok (.aload_n 0, 1) := by decide +kernel
theorem dX3_takeRule_1 : decode cX3_takeRule 1 = .ok (.getfield 12, 3) := by decide +kernel
theorem dX3_takeRule_4 : decode cX3_takeRule 4 = .ok (.getfield 138, 3) := by decide +kernel
theorem dX3_takeRule_7 : decode cX3_takeRule 7 = .ok (.bipush 8, 2) := by decide +kernel
theorem dX3_takeRule_9 : decode cX3_takeRule 9 = .ok (.if_icmp .lt 13, 3) := by decide +kernel
theorem dX3_takeRule_12 : decode cX3_takeRule 12 = .ok (.aload_n 0, 1) := by decide +kernel
theorem dX3_takeRule_13 : decode cX3_takeRule 13 = .ok (.iconst 5, 1) := by decide +kernel
theorem dX3_takeRule_14 : decode cX3_takeRule 14 = .ok (.aload_n 0, 1) := by decide +kernel
theorem dX3_takeRule_15 : decode cX3_takeRule 15 = .ok (.getfield 74, 3) := by decide +kernel
theorem dX3_takeRule_18 : decode cX3_takeRule 18 = .ok (.invokevirtual 67, 3) := by decide +kernel
theorem dX3_takeRule_21 : decode cX3_takeRule 21 = .ok (.ireturn, 1) := by decide +kernel
theorem dX3_takeRule_22 : decode cX3_takeRule 22 = .ok (.aload_n 0, 1) := by decide +kernel
theorem dX3_takeRule_23 : decode cX3_takeRule 23 = .ok (.invokevirtual 48, 3) := by decide +kernel
theorem dX3_takeRule_26 : decode cX3_takeRule 26 = .ok (.ifCond .eq 10, 3) := by decide +kernel
theorem dX3_takeRule_29 : decode cX3_takeRule 29 = .ok (.aload_n 0, 1) := by decide +kernel
theorem dX3_takeRule_30 : decode cX3_takeRule 30 = .ok (.invokevirtual 141, 3) := by decide +kernel
theorem dX3_takeRule_33 : decode cX3_takeRule 33 = .ok (.ifCond .ne 5, 3) := by decide +kernel
theorem dX3_takeRule_36 : decode cX3_takeRule 36 = .ok (.iconst 0, 1) := by decide +kernel
theorem dX3_takeRule_37 : decode cX3_takeRule 37 = .ok (.ireturn, 1) := by decide +kernel
theorem dX3_takeRule_38 : decode cX3_takeRule 38 = .ok (.aload_n 0, 1) := by decide +kernel
theorem dX3_takeRule_39 : decode cX3_takeRule 39 = .ok (.getfield 84, 3) := by decide +kernel
theorem dX3_takeRule_42 : decode cX3_takeRule 42 = .ok (.istore_n 1, 1) := by decide +kernel
theorem dX3_takeRule_43 : decode cX3_takeRule 43 = .ok (.aload_n 0, 1) := by decide +kernel
theorem dX3_takeRule_44 : decode cX3_takeRule 44 = .ok (.invokevirtual 48, 3) := by decide +kernel
theorem dX3_takeRule_47 : decode cX3_takeRule 47 = .ok (.ifCond .eq 11, 3) := by decide +kernel
theorem dX3_takeRule_50 : decode cX3_takeRule 50 = .ok (.aload_n 0, 1) := by decide +kernel
theorem dX3_takeRule_51 : decode cX3_takeRule 51 = .ok (.iconst 0, 1) := by decide +kernel
theorem dX3_takeRule_52 : decode cX3_takeRule 52 = .ok (.invokevirtual 144, 3) := by decide +kernel
theorem dX3_takeRule_55 : decode cX3_takeRule 55 = .ok (.ifCond .ne 5, 3) := by decide +kernel
theorem dX3_takeRule_58 : decode cX3_takeRule 58 = .ok (.iconst 0, 1) := by decide +kernel
theorem dX3_takeRule_59 : decode cX3_takeRule 59 = .ok (.ireturn, 1) := by decide +kernel
theorem dX3_takeRule_60 : decode cX3_takeRule 60 = .ok (.aload_n 0, 1) := by decide +kernel
theorem dX3_takeRule_61 : decode cX3_takeRule 61 = .ok (.getfield 84, 3) := by decide +kernel
theorem dX3_takeRule_64 : decode cX3_takeRule 64 = .ok (.istore_n 2, 1) := by decide +kernel
theorem dX3_takeRule_65 : decode cX3_takeRule 65 = .ok (.iconst 0, 1) := by decide +kernel
theorem dX3_takeRule_66 : decode cX3_takeRule 66 = .ok (.istore_n 3, 1) := by decide +kernel
theorem dX3_takeRule_67 : decode cX3_takeRule 67 = .ok (.iconst 0, 1) := by decide +kernel
theorem dX3_takeRule_68 : decode cX3_takeRule 68 = .ok (.istore 4, 2) := by decide +kernel
theorem dX3_takeRule_70 : decode cX3_takeRule 70 = .ok (.iconst 0, 1) := by decide +kernel
theorem dX3_takeRule_71 : decode cX3_takeRule 71 = .ok (.istore 5, 2) := by decide +kernel
theorem dX3_takeRule_73 : decode cX3_takeRule 73 = .ok (.iconst 0, 1) := by decide +kernel
theorem dX3_takeRule_74 : decode cX3_takeRule 74 = .ok (.istore 6, 2) := by decide +kernel
theorem dX3_takeRule_76 : decode cX3_takeRule 76 = .ok (.iload 6, 2) := by decide +kernel
theorem dX3_takeRule_78 : decode cX3_takeRule 78 = .ok (.aload_n 0, 1) := by decide +kernel
theorem dX3_takeRule_79 : decode cX3_takeRule 79 = .ok (.getfield 22, 3) := by decide +kernel
theorem dX3_takeRule_82 : decode cX3_takeRule 82 = .ok (.if_icmp .gt 111, 3) := by decide +kernel
theorem dX3_takeRule_85 : decode cX3_takeRule 85 = .ok (.aload_n 0, 1) := by decide +kernel
theorem dX3_takeRule_86 : decode cX3_takeRule 86 = .ok (.invokevirtual 48, 3) := by decide +kernel
theorem dX3_takeRule_89 : decode cX3_takeRule 89 = .ok (.ifCond .ne 5, 3) := by decide +kernel
theorem dX3_takeRule_92 : decode cX3_takeRule 92 = .ok (.iconst 0, 1) := by decide +kernel
theorem dX3_takeRule_93 : decode cX3_takeRule 93 = .ok (.ireturn, 1) := by decide +kernel
theorem dX3_takeRule_94 : decode cX3_takeRule 94 = .ok (.aload_n 0, 1) := by decide +kernel
theorem dX3_takeRule_95 : decode cX3_takeRule 95 = .ok (.getfield 52, 3) := by decide +kernel
theorem dX3_takeRule_98 : decode cX3_takeRule 98 = .ok (.iconst 3, 1) := by decide +kernel
theorem dX3_takeRule_99 : decode cX3_takeRule 99 = .ok (.if_icmp .ne 27, 3) := by decide +kernel
theorem dX3_takeRule_102 : decode cX3_takeRule 102 = .ok (.iload 5, 2) := by decide +kernel
theorem dX3_takeRule_104 : decode cX3_takeRule 104 = .ok (.ifCond .eq 8, 3) := by decide +kernel
theorem dX3_takeRule_107 : decode cX3_takeRule 107 = .ok (.iload 4, 2) := by decide +kernel
theorem dX3_takeRule_109 : decode cX3_takeRule 109 = .ok (.ifCond .eq 17, 3) := by decide +kernel
theorem dX3_takeRule_112 : decode cX3_takeRule 112 = .ok (.aload_n 0, 1) := by decide +kernel
theorem dX3_takeRule_113 : decode cX3_takeRule 113 = .ok (.getfield 12, 3) := by decide +kernel
theorem dX3_takeRule_116 : decode cX3_takeRule 116 = .ok (.iload_n 1, 1) := by decide +kernel
theorem dX3_takeRule_117 : decode cX3_takeRule 117 = .ok (.iload_n 2, 1) := by decide +kernel
theorem dX3_takeRule_118 : decode cX3_takeRule 118 = .ok (.iload_n 3, 1) := by decide +kernel
theorem dX3_takeRule_119 : decode cX3_takeRule 119 = .ok (.iload 4, 2) := by decide +kernel
theorem dX3_takeRule_121 : decode cX3_takeRule 121 = .ok (.invokevirtual 147, 3) := by decide +kernel
theorem dX3_takeRule_124 : decode cX3_takeRule 124 = .ok (.iconst 1, 1) := by decide +kernel
theorem dX3_takeRule_125 : decode cX3_takeRule 125 = .ok (.ireturn, 1) := by decide +kernel
theorem dX3_takeRule_126 : decode cX3_takeRule 126 = .ok (.aload_n 0, 1) := by decide +kernel
theorem dX3_takeRule_127 : decode cX3_takeRule 127 = .ok (.ldc 151, 2) := by decide +kernel
theorem dX3_takeRule_129 : decode cX3_takeRule 129 = .ok (.invokevirtual 98, 3) := by decide +kernel
theorem dX3_takeRule_132 : decode cX3_takeRule 132 = .ok (.ifCond .eq 14, 3) := by decide +kernel
theorem dX3_takeRule_135 : decode cX3_takeRule 135 = .ok (.iload 5, 2) := by decide +kernel
theorem dX3_takeRule_137 : decode cX3_takeRule 137 = .ok (.ifCond .ne 9, 3) := by decide +kernel
theorem dX3_takeRule_140 : decode cX3_takeRule 140 = .ok (.iconst 1, 1) := by decide +kernel
theorem dX3_takeRule_141 : decode cX3_takeRule 141 = .ok (.istore 5, 2) := by decide +kernel
theorem dX3_takeRule_143 : decode cX3_takeRule 143 = .ok (.goto 44, 3) := by decide +kernel
theorem dX3_takeRule_146 : decode cX3_takeRule 146 = .ok (.aload_n 0, 1) := by decide +kernel
theorem dX3_takeRule_147 : decode cX3_takeRule 147 = .ok (.iload_n 3, 1) := by decide +kernel
theorem dX3_takeRule_148 : decode cX3_takeRule 148 = .ok (.iload 4, 2) := by decide +kernel
theorem dX3_takeRule_150 : decode cX3_takeRule 150 = .ok (.ior, 1) := by decide +kernel
theorem dX3_takeRule_151 : decode cX3_takeRule 151 = .ok (.invokevirtual 144, 3) := by decide +kernel
theorem dX3_takeRule_154 : decode cX3_takeRule 154 = .ok (.ifCond .ne 5, 3) := by decide +kernel
theorem dX3_takeRule_157 : decode cX3_takeRule 157 = .ok (.iconst 0, 1) := by decide +kernel
theorem dX3_takeRule_158 : decode cX3_takeRule 158 = .ok (.ireturn, 1) := by decide +kernel
theorem dX3_takeRule_159 : decode cX3_takeRule 159 = .ok (.iload 5, 2) := by decide +kernel
theorem dX3_takeRule_161 : decode cX3_takeRule 161 = .ok (.ifCond .eq 17, 3) := by decide +kernel
theorem dX3_takeRule_164 : decode cX3_takeRule 164 = .ok (.iload 4, 2) := by decide +kernel
theorem dX3_takeRule_166 : decode cX3_takeRule 166 = .ok (.iconst 1, 1) := by decide +kernel
theorem dX3_takeRule_167 : decode cX3_takeRule 167 = .ok (.aload_n 0, 1) := by decide +kernel
theorem dX3_takeRule_168 : decode cX3_takeRule 168 = .ok (.getfield 84, 3) := by decide +kernel
theorem dX3_takeRule_171 : decode cX3_takeRule 171 = .ok (.ishl, 1) := by decide +kernel
theorem dX3_takeRule_172 : decode cX3_takeRule 172 = .ok (.ior, 1) := by decide +kernel
theorem dX3_takeRule_173 : decode cX3_takeRule 173 = .ok (.istore 4, 2) := by decide +kernel
theorem dX3_takeRule_175 : decode cX3_takeRule 175 = .ok (.goto 12, 3) := by decide +kernel
theorem dX3_takeRule_178 : decode cX3_takeRule 178 = .ok (.iload_n 3, 1) := by decide +kernel
theorem dX3_takeRule_179 : decode cX3_takeRule 179 = .ok (.iconst 1, 1) := by decide +kernel
theorem dX3_takeRule_180 : decode cX3_takeRule 180 = .ok (.aload_n 0, 1) := by decide +kernel
theorem dX3_takeRule_181 : decode cX3_takeRule 181 = .ok (.getfield 84, 3) := by decide +kernel
theorem dX3_takeRule_184 : decode cX3_takeRule 184 = .ok (.ishl, 1) := by decide +kernel
theorem dX3_takeRule_185 : decode cX3_takeRule 185 = .ok (.ior, 1) := by decide +kernel
theorem dX3_takeRule_186 : decode cX3_takeRule 186 = .ok (.istore_n 3, 1) := by decide +kernel
theorem dX3_takeRule_187 : decode cX3_takeRule 187 = .ok (.iinc 6 1, 3) := by decide +kernel
theorem dX3_takeRule_190 : decode cX3_takeRule 190 = .ok (.goto (-114), 3) := by decide +kernel
theorem dX3_takeRule_193 : decode cX3_takeRule 193 = .ok (.aload_n 0, 1) := by decide +kernel
theorem dX3_takeRule_194 : decode cX3_takeRule 194 = .ok (.iconst 2, 1) := by decide +kernel
theorem dX3_takeRule_195 : decode cX3_takeRule 195 = .ok (.aload_n 0, 1) := by decide +kernel
theorem dX3_takeRule_196 : decode cX3_takeRule 196 = .ok (.getfield 22, 3) := by decide +kernel
theorem dX3_takeRule_199 : decode cX3_takeRule 199 = .ok (.invokevirtual 67, 3) := by decide +kernel
theorem dX3_takeRule_202 : decode cX3_takeRule 202 = .ok (.ireturn, 1) := by decide +kernel
theorem dX3_takeWorth_0 : decode cX3_takeWorth 0 = .ok (.aload_n 0, 1) := by decide +kernel
theorem dX3_takeWorth_1 : decode cX3_takeWorth 1 = .ok (.invokevirtual 48, 3) := by decide +kernel
theorem dX3_takeWorth_4 : decode cX3_takeWorth 4 = .ok (.ifCond .eq 14, 3) := by decide +kernel
theorem dX3_takeWorth_7 : decode cX3_takeWorth 7 = .ok (.aload_n 0, 1) := by decide +kernel
theorem dX3_takeWorth_8 : decode cX3_takeWorth 8 = .ok (.aload_n 0, 1) := by decide +kernel
theorem dX3_takeWorth_9 : decode cX3_takeWorth 9 = .ok (.getfield 45, 3) := by decide +kernel
theorem dX3_takeWorth_12 : decode cX3_takeWorth 12 = .ok (.invokevirtual 144, 3) := by decide +kernel
theorem dX3_takeWorth_15 : decode cX3_takeWorth 15 = .ok (.ifCond .ne 5, 3) := by decide +kernel
theorem dX3_takeWorth_18 : decode cX3_takeWorth 18 = .ok (.iconst 0, 1) := by decide +kernel
theorem dX3_takeWorth_19 : decode cX3_takeWorth 19 = .ok (.ireturn, 1) := by decide +kernel
theorem dX3_takeWorth_20 : decode cX3_takeWorth 20 = .ok (.aload_n 0, 1) := by decide +kernel
theorem dX3_takeWorth_21 : decode cX3_takeWorth 21 = .ok (.getfield 84, 3) := by decide +kernel
theorem dX3_takeWorth_24 : decode cX3_takeWorth 24 = .ok (.istore_n 2, 1) := by decide +kernel
theorem dX3_takeWorth_25 : decode cX3_takeWorth 25 = .ok (.aload_n 0, 1) := by decide +kernel
theorem dX3_takeWorth_26 : decode cX3_takeWorth 26 = .ok (.dup, 1) := by decide +kernel
theorem dX3_takeWorth_27 : decode cX3_takeWorth 27 = .ok (.getfield 45, 3) := by decide +kernel
theorem dX3_takeWorth_30 : decode cX3_takeWorth 30 = .ok (.iconst 1, 1) := by decide +kernel
theorem dX3_takeWorth_31 : decode cX3_takeWorth 31 = .ok (.iload_n 2, 1) := by decide +kernel
theorem dX3_takeWorth_32 : decode cX3_takeWorth 32 = .ok (.ishl, 1) := by decide +kernel
theorem dX3_takeWorth_33 : decode cX3_takeWorth 33 = .ok (.ior, 1) := by decide +kernel
theorem dX3_takeWorth_34 : decode cX3_takeWorth 34 = .ok (.putfield 45, 3) := by decide +kernel
theorem dX3_takeWorth_37 : decode cX3_takeWorth 37 = .ok (.aload_n 0, 1) := by decide +kernel
theorem dX3_takeWorth_38 : decode cX3_takeWorth 38 = .ok (.invokevirtual 48, 3) := by decide +kernel
theorem dX3_takeWorth_41 : decode cX3_takeWorth 41 = .ok (.ifCond .eq 13, 3) := by decide +kernel
theorem dX3_takeWorth_44 : decode cX3_takeWorth 44 = .ok (.aload_n 0, 1) := by decide +kernel
theorem dX3_takeWorth_45 : decode cX3_takeWorth 45 = .ok (.iconst 0, 1) := by decide +kernel
theorem dX3_takeWorth_46 : decode cX3_takeWorth 46 = .ok (.bipush 9, 2) := by decide +kernel
theorem dX3_takeWorth_48 : decode cX3_takeWorth 48 = .ok (.invokevirtual 132, 3) := by decide +kernel
theorem dX3_takeWorth_51 : decode cX3_takeWorth 51 = .ok (.ifCond .ne 5, 3) := by decide +kernel
theorem dX3_takeWorth_54 : decode cX3_takeWorth 54 = .ok (.iconst 0, 1) := by decide +kernel
theorem dX3_takeWorth_55 : decode cX3_takeWorth 55 = .ok (.ireturn, 1) := by decide +kernel
theorem dX3_takeWorth_56 : decode cX3_takeWorth 56 = .ok (.aload_n 0, 1) := by decide +kernel
theorem dX3_takeWorth_57 : decode cX3_takeWorth 57 = .ok (.getfield 12, 3) := by decide +kernel
theorem dX3_takeWorth_60 : decode cX3_takeWorth 60 = .ok (.getfield 153, 3) := by decide +kernel
theorem dX3_takeWorth_63 : decode cX3_takeWorth 63 = .ok (.iload_n 2, 1) := by decide +kernel
theorem dX3_takeWorth_64 : decode cX3_takeWorth 64 = .ok (.iload_n 1, 1) := by decide +kernel
theorem dX3_takeWorth_65 : decode cX3_takeWorth 65 = .ok (.aload_n 0, 1) := by decide +kernel
theorem dX3_takeWorth_66 : decode cX3_takeWorth 66 = .ok (.getfield 84, 3) := by decide +kernel
theorem dX3_takeWorth_69 : decode cX3_takeWorth 69 = .ok (.imul, 1) := by decide +kernel
theorem dX3_takeWorth_70 : decode cX3_takeWorth 70 = .ok (.iastore, 1) := by decide +kernel
theorem dX3_takeWorth_71 : decode cX3_takeWorth 71 = .ok (.aload_n 0, 1) := by decide +kernel
theorem dX3_takeWorth_72 : decode cX3_takeWorth 72 = .ok (.invokevirtual 135, 3) := by decide +kernel
theorem dX3_takeWorth_75 : decode cX3_takeWorth 75 = .ok (.ireturn, 1) := by decide +kernel
theorem dX3_takeHome_0 : decode cX3_takeHome 0 = .ok (.aload_n 0, 1) := by decide +kernel
theorem dX3_takeHome_1 : decode cX3_takeHome 1 = .ok (.invokevirtual 48, 3) := by decide +kernel
theorem dX3_takeHome_4 : decode cX3_takeHome 4 = .ok (.ifCond .eq 10, 3) := by decide +kernel
theorem dX3_takeHome_7 : decode cX3_takeHome 7 = .ok (.aload_n 0, 1) := by decide +kernel
theorem dX3_takeHome_8 : decode cX3_takeHome 8 = .ok (.invokevirtual 141, 3) := by decide +kernel
theorem dX3_takeHome_11 : decode cX3_takeHome 11 = .ok (.ifCond .ne 5, 3) := by decide +kernel
theorem dX3_takeHome_14 : decode cX3_takeHome 14 = .ok (.iconst 0, 1) := by decide +kernel
theorem dX3_takeHome_15 : decode cX3_takeHome 15 = .ok (.ireturn, 1) := by decide +kernel
theorem dX3_takeHome_16 : decode cX3_takeHome 16 = .ok (.aload_n 0, 1) := by decide +kernel
theorem dX3_takeHome_17 : decode cX3_takeHome 17 = .ok (.getfield 12, 3) := by decide +kernel
theorem dX3_takeHome_20 : decode cX3_takeHome 20 = .ok (.getfield 157, 3) := by decide +kernel
theorem dX3_takeHome_23 : decode cX3_takeHome 23 = .ok (.aload_n 0, 1) := by decide +kernel
theorem dX3_takeHome_24 : decode cX3_takeHome 24 = .ok (.getfield 84, 3) := by decide +kernel
theorem dX3_takeHome_27 : decode cX3_takeHome 27 = .ok (.invokestatic 159, 3) := by decide +kernel
theorem dX3_takeHome_30 : decode cX3_takeHome 30 = .ok (.iconst 1, 1) := by decide +kernel
theorem dX3_takeHome_31 : decode cX3_takeHome 31 = .ok (.if_icmp .ne 13, 3) := by decide +kernel
theorem dX3_takeHome_34 : decode cX3_takeHome 34 = .ok (.aload_n 0, 1) := by decide +kernel
theorem dX3_takeHome_35 : decode cX3_takeHome 35 = .ok (.iconst 4, 1) := by decide +kernel
theorem dX3_takeHome_36 : decode cX3_takeHome 36 = .ok (.aload_n 0, 1) := by decide +kernel
theorem dX3_takeHome_37 : decode cX3_takeHome 37 = .ok (.getfield 74, 3) := by decide +kernel
theorem dX3_takeHome_40 : decode cX3_takeHome 40 = .ok (.invokevirtual 67, 3) := by decide +kernel
theorem dX3_takeHome_43 : decode cX3_takeHome 43 = .ok (.ireturn, 1) := by decide +kernel
theorem dX3_takeHome_44 : decode cX3_takeHome 44 = .ok (.aload_n 0, 1) := by decide +kernel
theorem dX3_takeHome_45 : decode cX3_takeHome 45 = .ok (.getfield 12, 3) := by decide +kernel
theorem dX3_takeHome_48 : decode cX3_takeHome 48 = .ok (.dup, 1) := by decide +kernel
theorem dX3_takeHome_49 : decode cX3_takeHome 49 = .ok (.getfield 157, 3) := by decide +kernel
theorem dX3_takeHome_52 : decode cX3_takeHome 52 = .ok (.iconst 1, 1) := by decide +kernel
theorem dX3_takeHome_53 : decode cX3_takeHome 53 = .ok (.aload_n 0, 1) := by decide +kernel
theorem dX3_takeHome_54 : decode cX3_takeHome 54 = .ok (.getfield 84, 3) := by decide +kernel
theorem dX3_takeHome_57 : decode cX3_takeHome 57 = .ok (.ishl, 1) := by decide +kernel
theorem dX3_takeHome_58 : decode cX3_takeHome 58 = .ok (.ior, 1) := by decide +kernel
theorem dX3_takeHome_59 : decode cX3_takeHome 59 = .ok (.putfield 157, 3) := by decide +kernel
theorem dX3_takeHome_62 : decode cX3_takeHome 62 = .ok (.aload_n 0, 1) := by decide +kernel
theorem dX3_takeHome_63 : decode cX3_takeHome 63 = .ok (.invokevirtual 135, 3) := by decide +kernel
theorem dX3_takeHome_66 : decode cX3_takeHome 66 = .ok (.ireturn, 1) := by decide +kernel
theorem dX3_takeStop_0 : decode cX3_takeStop 0 = .ok (.aload_n 0, 1) := by decide +kernel
theorem dX3_takeStop_1 : decode cX3_takeStop 1 = .ok (.invokevirtual 48, 3) := by decide +kernel
theorem dX3_takeStop_4 : decode cX3_takeStop 4 = .ok (.ifCond .eq 17, 3) := by decide +kernel
theorem dX3_takeStop_7 : decode cX3_takeStop 7 = .ok (.aload_n 0, 1) := by decide +kernel
theorem dX3_takeStop_8 : decode cX3_takeStop 8 = .ok (.aload_n 0, 1) := by decide +kernel
theorem dX3_takeStop_9 : decode cX3_takeStop 9 = .ok (.getfield 12, 3) := by decide +kernel
theorem dX3_takeStop_12 : decode cX3_takeStop 12 = .ok (.getfield 163, 3) := by decide +kernel
theorem dX3_takeStop_15 : decode cX3_takeStop 15 = .ok (.invokevirtual 144, 3) := by decide +kernel
theorem dX3_takeStop_18 : decode cX3_takeStop 18 = .ok (.ifCond .ne 5, 3) := by decide +kernel
theorem dX3_takeStop_21 : decode cX3_takeStop 21 = .ok (.iconst 0, 1) := by decide +kernel
theorem dX3_takeStop_22 : decode cX3_takeStop 22 = .ok (.ireturn, 1) := by decide +kernel
theorem dX3_takeStop_23 : decode cX3_takeStop 23 = .ok (.aload_n 0, 1) := by decide +kernel
theorem dX3_takeStop_24 : decode cX3_takeStop 24 = .ok (.getfield 12, 3) := by decide +kernel
theorem dX3_takeStop_27 : decode cX3_takeStop 27 = .ok (.dup, 1) := by decide +kernel
theorem dX3_takeStop_28 : decode cX3_takeStop 28 = .ok (.getfield 163, 3) := by decide +kernel
theorem dX3_takeStop_31 : decode cX3_takeStop 31 = .ok (.iconst 1, 1) := by decide +kernel
theorem dX3_takeStop_32 : decode cX3_takeStop 32 = .ok (.aload_n 0, 1) := by decide +kernel
theorem dX3_takeStop_33 : decode cX3_takeStop 33 = .ok (.getfield 84, 3) := by decide +kernel
theorem dX3_takeStop_36 : decode cX3_takeStop 36 = .ok (.ishl, 1) := by decide +kernel
theorem dX3_takeStop_37 : decode cX3_takeStop 37 = .ok (.ior, 1) := by decide +kernel
theorem dX3_takeStop_38 : decode cX3_takeStop 38 = .ok (.putfield 163, 3) := by decide +kernel
theorem dX3_takeStop_41 : decode cX3_takeStop 41 = .ok (.aload_n 0, 1) := by decide +kernel
theorem dX3_takeStop_42 : decode cX3_takeStop 42 = .ok (.invokevirtual 135, 3) := by decide +kernel
theorem dX3_takeStop_45 : decode cX3_takeStop 45 = .ok (.ireturn, 1) := by decide +kernel
theorem dX3_takeToday_0 : decode cX3_takeToday 0 = .ok (.aload_n 0, 1) := by decide +kernel
theorem dX3_takeToday_1 : decode cX3_takeToday 1 = .ok (.invokevirtual 48, 3) := by decide +kernel
theorem dX3_takeToday_4 : decode cX3_takeToday 4 = .ok (.ifCond .eq 17, 3) := by decide +kernel
theorem dX3_takeToday_7 : decode cX3_takeToday 7 = .ok (.aload_n 0, 1) := by decide +kernel
theorem dX3_takeToday_8 : decode cX3_takeToday 8 = .ok (.aload_n 0, 1) := by decide +kernel
theorem dX3_takeToday_9 : decode cX3_takeToday 9 = .ok (.getfield 12, 3) := by decide +kernel
theorem dX3_takeToday_12 : decode cX3_takeToday 12 = .ok (.getfield 166, 3) := by decide +kernel
theorem dX3_takeToday_15 : decode cX3_takeToday 15 = .ok (.invokevirtual 144, 3) := by decide +kernel
theorem dX3_takeToday_18 : decode cX3_takeToday 18 = .ok (.ifCond .ne 5, 3) := by decide +kernel
theorem dX3_takeToday_21 : decode cX3_takeToday 21 = .ok (.iconst 0, 1) := by decide +kernel
theorem dX3_takeToday_22 : decode cX3_takeToday 22 = .ok (.ireturn, 1) := by decide +kernel
theorem dX3_takeToday_23 : decode cX3_takeToday 23 = .ok (.aload_n 0, 1) := by decide +kernel
theorem dX3_takeToday_24 : decode cX3_takeToday 24 = .ok (.getfield 12, 3) := by decide +kernel
theorem dX3_takeToday_27 : decode cX3_takeToday 27 = .ok (.dup, 1) := by decide +kernel
theorem dX3_takeToday_28 : decode cX3_takeToday 28 = .ok (.getfield 166, 3) := by decide +kernel
theorem dX3_takeToday_31 : decode cX3_takeToday 31 = .ok (.iconst 1, 1) := by decide +kernel
theorem dX3_takeToday_32 : decode cX3_takeToday 32 = .ok (.aload_n 0, 1) := by decide +kernel
theorem dX3_takeToday_33 : decode cX3_takeToday 33 = .ok (.getfield 84, 3) := by decide +kernel
theorem dX3_takeToday_36 : decode cX3_takeToday 36 = .ok (.ishl, 1) := by decide +kernel
theorem dX3_takeToday_37 : decode cX3_takeToday 37 = .ok (.ior, 1) := by decide +kernel
theorem dX3_takeToday_38 : decode cX3_takeToday 38 = .ok (.putfield 166, 3) := by decide +kernel
theorem dX3_takeToday_41 : decode cX3_takeToday 41 = .ok (.aload_n 0, 1) := by decide +kernel
theorem dX3_takeToday_42 : decode cX3_takeToday 42 = .ok (.invokevirtual 135, 3) := by decide +kernel
theorem dX3_takeToday_45 : decode cX3_takeToday 45 = .ok (.ireturn, 1) := by decide +kernel
theorem dX3_takeClosing_0 : decode cX3_takeClosing 0 = .ok (.aload_n 0, 1) := by decide +kernel
theorem dX3_takeClosing_1 : decode cX3_takeClosing 1 = .ok (.invokevirtual 48, 3) := by decide +kernel
theorem dX3_takeClosing_4 : decode cX3_takeClosing 4 = .ok (.ifCond .eq 27, 3) := by decide +kernel
theorem dX3_takeClosing_7 : decode cX3_takeClosing 7 = .ok (.aload_n 0, 1) := by decide +kernel
theorem dX3_takeClosing_8 : decode cX3_takeClosing 8 = .ok (.getfield 52, 3) := by decide +kernel
theorem dX3_takeClosing_11 : decode cX3_takeClosing 11 = .ok (.iconst 3, 1) := by decide +kernel
theorem dX3_takeClosing_12 : decode cX3_takeClosing 12 = .ok (.if_icmp .eq 15, 3) := by decide +kernel
theorem dX3_takeClosing_15 : decode cX3_takeClosing 15 = .ok (.aload_n 0, 1) := by decide +kernel
theorem dX3_takeClosing_16 : decode cX3_takeClosing 16 = .ok (.iconst 2, 1) := by decide +kernel
theorem dX3_takeClosing_17 : decode cX3_takeClosing 17 = .ok (.aload_n 0, 1) := by decide +kernel
theorem dX3_takeClosing_18 : decode cX3_takeClosing 18 = .ok (.getfield 74, 3) := by decide +kernel
theorem dX3_takeClosing_21 : decode cX3_takeClosing 21 = .ok (.invokevirtual 67, 3) := by decide +kernel
theorem dX3_takeClosing_24 : decode cX3_takeClosing 24 = .ok (.ifCond .eq 7, 3) := by decide +kernel
theorem dX3_takeClosing_27 : decode cX3_takeClosing 27 = .ok (.iconst 1, 1) := by decide +kernel
theorem dX3_takeClosing_28 : decode cX3_takeClosing 28 = .ok (.goto 4, 3) := by decide +kernel
theorem dX3_takeClosing_31 : decode cX3_takeClosing 31 = .ok (.iconst 0, 1) := by decide +kernel
theorem dX3_takeClosing_32 : decode cX3_takeClosing 32 = .ok (.ireturn, 1) := by decide +kernel
theorem dX3_isOne_0 : decode cX3_isOne 0 = .ok (.aload_n 0, 1) := by decide +kernel
theorem dX3_isOne_1 : decode cX3_isOne 1 = .ok (.iconst 0, 1) := by decide +kernel
theorem dX3_isOne_2 : decode cX3_isOne 2 = .ok (.iconst 3, 1) := by decide +kernel
theorem dX3_isOne_3 : decode cX3_isOne 3 = .ok (.invokevirtual 132, 3) := by decide +kernel
theorem dX3_isOne_6 : decode cX3_isOne 6 = .ok (.ifCond .ne 5, 3) := by decide +kernel
theorem dX3_isOne_9 : decode cX3_isOne 9 = .ok (.iconst 0, 1) := by decide +kernel
