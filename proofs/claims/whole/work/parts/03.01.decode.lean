theorem dX3_isOne_10 : decode cX3_isOne 10 = .ok (.ireturn, 1) := by decide +kernel
theorem dX3_isOne_11 : decode cX3_isOne 11 = .ok (.aload_n 0, 1) := by decide +kernel
theorem dX3_isOne_12 : decode cX3_isOne 12 = .ok (.dup, 1) := by decide +kernel
theorem dX3_isOne_13 : decode cX3_isOne 13 = .ok (.getfield 42, 3) := by decide +kernel
theorem dX3_isOne_16 : decode cX3_isOne 16 = .ok (.iconst 1, 1) := by decide +kernel
theorem dX3_isOne_17 : decode cX3_isOne 17 = .ok (.aload_n 0, 1) := by decide +kernel
theorem dX3_isOne_18 : decode cX3_isOne 18 = .ok (.getfield 84, 3) := by decide +kernel
theorem dX3_isOne_21 : decode cX3_isOne 21 = .ok (.ishl, 1) := by decide +kernel
theorem dX3_isOne_22 : decode cX3_isOne 22 = .ok (.ior, 1) := by decide +kernel
theorem dX3_isOne_23 : decode cX3_isOne 23 = .ok (.putfield 42, 3) := by decide +kernel
theorem dX3_isOne_26 : decode cX3_isOne 26 = .ok (.iconst 1, 1) := by decide +kernel
theorem dX3_isOne_27 : decode cX3_isOne 27 = .ok (.ireturn, 1) := by decide +kernel
theorem dX3_isNoteNotIn_0 : decode cX3_isNoteNotIn 0 = .ok (.aload_n 0, 1) := by decide +kernel
theorem dX3_isNoteNotIn_1 : decode cX3_isNoteNotIn 1 = .ok (.iconst 0, 1) := by decide +kernel
theorem dX3_isNoteNotIn_2 : decode cX3_isNoteNotIn 2 = .ok (.iconst 5, 1) := by decide +kernel
theorem dX3_isNoteNotIn_3 : decode cX3_isNoteNotIn 3 = .ok (.invokevirtual 132, 3) := by decide +kernel
theorem dX3_isNoteNotIn_6 : decode cX3_isNoteNotIn 6 = .ok (.ifCond .ne 5, 3) := by decide +kernel
theorem dX3_isNoteNotIn_9 : decode cX3_isNoteNotIn 9 = .ok (.iconst 0, 1) := by decide +kernel
theorem dX3_isNoteNotIn_10 : decode cX3_isNoteNotIn 10 = .ok (.ireturn, 1) := by decide +kernel
theorem dX3_isNoteNotIn_11 : decode cX3_isNoteNotIn 11 = .ok (.aload_n 0, 1) := by decide +kernel
theorem dX3_isNoteNotIn_12 : decode cX3_isNoteNotIn 12 = .ok (.dup, 1) := by decide +kernel
theorem dX3_isNoteNotIn_13 : decode cX3_isNoteNotIn 13 = .ok (.getfield 39, 3) := by decide +kernel
theorem dX3_isNoteNotIn_16 : decode cX3_isNoteNotIn 16 = .ok (.iconst 1, 1) := by decide +kernel
theorem dX3_isNoteNotIn_17 : decode cX3_isNoteNotIn 17 = .ok (.aload_n 0, 1) := by decide +kernel
theorem dX3_isNoteNotIn_18 : decode cX3_isNoteNotIn 18 = .ok (.getfield 84, 3) := by decide +kernel
theorem dX3_isNoteNotIn_21 : decode cX3_isNoteNotIn 21 = .ok (.ishl, 1) := by decide +kernel
theorem dX3_isNoteNotIn_22 : decode cX3_isNoteNotIn 22 = .ok (.ior, 1) := by decide +kernel
theorem dX3_isNoteNotIn_23 : decode cX3_isNoteNotIn 23 = .ok (.putfield 39, 3) := by decide +kernel
theorem dX3_isNoteNotIn_26 : decode cX3_isNoteNotIn 26 = .ok (.iload_n 1, 1) := by decide +kernel
theorem dX3_isNoteNotIn_27 : decode cX3_isNoteNotIn 27 = .ok (.aload_n 0, 1) := by decide +kernel
theorem dX3_isNoteNotIn_28 : decode cX3_isNoteNotIn 28 = .ok (.getfield 84, 3) := by decide +kernel
theorem dX3_isNoteNotIn_31 : decode cX3_isNoteNotIn 31 = .ok (.invokestatic 159, 3) := by decide +kernel
theorem dX3_isNoteNotIn_34 : decode cX3_isNoteNotIn 34 = .ok (.ifCond .eq 15, 3) := by decide +kernel
theorem dX3_isNoteNotIn_37 : decode cX3_isNoteNotIn 37 = .ok (.aload_n 0, 1) := by decide +kernel
theorem dX3_isNoteNotIn_38 : decode cX3_isNoteNotIn 38 = .ok (.iconst 4, 1) := by decide +kernel
theorem dX3_isNoteNotIn_39 : decode cX3_isNoteNotIn 39 = .ok (.aload_n 0, 1) := by decide +kernel
theorem dX3_isNoteNotIn_40 : decode cX3_isNoteNotIn 40 = .ok (.getfield 74, 3) := by decide +kernel
theorem dX3_isNoteNotIn_43 : decode cX3_isNoteNotIn 43 = .ok (.invokevirtual 67, 3) := by decide +kernel
theorem dX3_isNoteNotIn_46 : decode cX3_isNoteNotIn 46 = .ok (.ifCond .eq 7, 3) := by decide +kernel
theorem dX3_isNoteNotIn_49 : decode cX3_isNoteNotIn 49 = .ok (.iconst 1, 1) := by decide +kernel
theorem dX3_isNoteNotIn_50 : decode cX3_isNoteNotIn 50 = .ok (.goto 4, 3) := by decide +kernel
theorem dX3_isNoteNotIn_53 : decode cX3_isNoteNotIn 53 = .ok (.iconst 0, 1) := by decide +kernel
theorem dX3_isNoteNotIn_54 : decode cX3_isNoteNotIn 54 = .ok (.ireturn, 1) := by decide +kernel
theorem dX3_isNumber_0 : decode cX3_isNumber 0 = .ok (.aload_n 0, 1) := by decide +kernel
theorem dX3_isNumber_1 : decode cX3_isNumber 1 = .ok (.getfield 52, 3) := by decide +kernel
theorem dX3_isNumber_4 : decode cX3_isNumber 4 = .ok (.iconst 2, 1) := by decide +kernel
theorem dX3_isNumber_5 : decode cX3_isNumber 5 = .ok (.if_icmp .eq 13, 3) := by decide +kernel
theorem dX3_isNumber_8 : decode cX3_isNumber 8 = .ok (.aload_n 0, 1) := by decide +kernel
theorem dX3_isNumber_9 : decode cX3_isNumber 9 = .ok (.iconst 2, 1) := by decide +kernel
theorem dX3_isNumber_10 : decode cX3_isNumber 10 = .ok (.aload_n 0, 1) := by decide +kernel
theorem dX3_isNumber_11 : decode cX3_isNumber 11 = .ok (.getfield 74, 3) := by decide +kernel
theorem dX3_isNumber_14 : decode cX3_isNumber 14 = .ok (.invokevirtual 67, 3) := by decide +kernel
theorem dX3_isNumber_17 : decode cX3_isNumber 17 = .ok (.ireturn, 1) := by decide +kernel
theorem dX3_isNumber_18 : decode cX3_isNumber 18 = .ok (.aload_n 0, 1) := by decide +kernel
theorem dX3_isNumber_19 : decode cX3_isNumber 19 = .ok (.getfield 84, 3) := by decide +kernel
theorem dX3_isNumber_22 : decode cX3_isNumber 22 = .ok (.iload_n 1, 1) := by decide +kernel
theorem dX3_isNumber_23 : decode cX3_isNumber 23 = .ok (.if_icmp .lt 11, 3) := by decide +kernel
theorem dX3_isNumber_26 : decode cX3_isNumber 26 = .ok (.aload_n 0, 1) := by decide +kernel
theorem dX3_isNumber_27 : decode cX3_isNumber 27 = .ok (.getfield 84, 3) := by decide +kernel
theorem dX3_isNumber_30 : decode cX3_isNumber 30 = .ok (.iload_n 2, 1) := by decide +kernel
theorem dX3_isNumber_31 : decode cX3_isNumber 31 = .ok (.if_icmp .le 15, 3) := by decide +kernel
theorem dX3_isNumber_34 : decode cX3_isNumber 34 = .ok (.aload_n 0, 1) := by decide +kernel
theorem dX3_isNumber_35 : decode cX3_isNumber 35 = .ok (.iconst 3, 1) := by decide +kernel
theorem dX3_isNumber_36 : decode cX3_isNumber 36 = .ok (.aload_n 0, 1) := by decide +kernel
theorem dX3_isNumber_37 : decode cX3_isNumber 37 = .ok (.getfield 74, 3) := by decide +kernel
theorem dX3_isNumber_40 : decode cX3_isNumber 40 = .ok (.invokevirtual 67, 3) := by decide +kernel
theorem dX3_isNumber_43 : decode cX3_isNumber 43 = .ok (.ifCond .eq 7, 3) := by decide +kernel
theorem dX3_isNumber_46 : decode cX3_isNumber 46 = .ok (.iconst 1, 1) := by decide +kernel
theorem dX3_isNumber_47 : decode cX3_isNumber 47 = .ok (.goto 4, 3) := by decide +kernel
theorem dX3_isNumber_50 : decode cX3_isNumber 50 = .ok (.iconst 0, 1) := by decide +kernel
theorem dX3_isNumber_51 : decode cX3_isNumber 51 = .ok (.ireturn, 1) := by decide +kernel
theorem dX4_init_0 : decode cX4_init 0 = .ok (.aload_n 0, 1) := by decide +kernel
theorem dX4_init_1 : decode cX4_init 1 = .ok (.invokespecial 1, 3) := by decide +kernel
theorem dX4_init_4 : decode cX4_init 4 = .ok (.aload_n 0, 1) := by decide +kernel
theorem dX4_init_5 : decode cX4_init 5 = .ok (.new 7, 3) := by decide +kernel
theorem dX4_init_8 : decode cX4_init 8 = .ok (.dup, 1) := by decide +kernel
theorem dX4_init_9 : decode cX4_init 9 = .ok (.invokespecial 9, 3) := by decide +kernel
theorem dX4_init_12 : decode cX4_init 12 = .ok (.putfield 10, 3) := by decide +kernel
theorem dX4_init_15 : decode cX4_init 15 = .ok (.aload_n 0, 1) := by decide +kernel
theorem dX4_init_16 : decode cX4_init 16 = .ok (.iconst 2, 1) := by decide +kernel
theorem dX4_init_17 : decode cX4_init 17 = .ok (.anewarray 7, 3) := by decide +kernel
theorem dX4_init_20 : decode cX4_init 20 = .ok (.putfield 16, 3) := by decide +kernel
theorem dX4_init_23 : decode cX4_init 23 = .ok (.iconst 0, 1) := by decide +kernel
theorem dX4_init_24 : decode cX4_init 24 = .ok (.istore_n 1, 1) := by decide +kernel
theorem dX4_init_25 : decode cX4_init 25 = .ok (.iload_n 1, 1) := by decide +kernel
theorem dX4_init_26 : decode cX4_init 26 = .ok (.iconst 2, 1) := by decide +kernel
theorem dX4_init_27 : decode cX4_init 27 = .ok (.if_icmp .ge 22, 3) := by decide +kernel
theorem dX4_init_30 : decode cX4_init 30 = .ok (.aload_n 0, 1) := by decide +kernel
theorem dX4_init_31 : decode cX4_init 31 = .ok (.getfield 16, 3) := by decide +kernel
theorem dX4_init_34 : decode cX4_init 34 = .ok (.iload_n 1, 1) := by decide +kernel
theorem dX4_init_35 : decode cX4_init 35 = .ok (.new 7, 3) := by decide +kernel
theorem dX4_init_38 : decode cX4_init 38 = .ok (.dup, 1) := by decide +kernel
theorem dX4_init_39 : decode cX4_init 39 = .ok (.invokespecial 9, 3) := by decide +kernel
theorem dX4_init_42 : decode cX4_init 42 = .ok (.aastore, 1) := by decide +kernel
theorem dX4_init_43 : decode cX4_init 43 = .ok (.iinc 1 1, 3) := by decide +kernel
theorem dX4_init_46 : decode cX4_init 46 = .ok (.goto (-21), 3) := by decide +kernel
theorem dX4_init_49 : decode cX4_init 49 = .ok (.aload_n 0, 1) := by decide +kernel
theorem dX4_init_50 : decode cX4_init 50 = .ok (.iconst 2, 1) := by decide +kernel
theorem dX4_init_51 : decode cX4_init 51 = .ok (.newarray .boolean, 2) := by decide +kernel
theorem dX4_init_53 : decode cX4_init 53 = .ok (.putfield 20, 3) := by decide +kernel
theorem dX4_init_56 : decode cX4_init 56 = .ok (.aload_n 0, 1) := by decide +kernel
theorem dX4_init_57 : decode cX4_init 57 = .ok (.new 24, 3) := by decide +kernel
theorem dX4_init_60 : decode cX4_init 60 = .ok (.dup, 1) := by decide +kernel
theorem dX4_init_61 : decode cX4_init 61 = .ok (.invokespecial 26, 3) := by decide +kernel
theorem dX4_init_64 : decode cX4_init 64 = .ok (.putfield 27, 3) := by decide +kernel
theorem dX4_init_67 : decode cX4_init 67 = .ok (.aload_n 0, 1) := by decide +kernel
theorem dX4_init_68 : decode cX4_init 68 = .ok (.new 31, 3) := by decide +kernel
theorem dX4_init_71 : decode cX4_init 71 = .ok (.dup, 1) := by decide +kernel
theorem dX4_init_72 : decode cX4_init 72 = .ok (.invokespecial 33, 3) := by decide +kernel
theorem dX4_init_75 : decode cX4_init 75 = .ok (.putfield 34, 3) := by decide +kernel
theorem dX4_init_78 : decode cX4_init 78 = .ok (.aload_n 0, 1) := by decide +kernel
theorem dX4_init_79 : decode cX4_init 79 = .ok (.bipush 8, 2) := by decide +kernel
theorem dX4_init_81 : decode cX4_init 81 = .ok (.newarray .int, 2) := by decide +kernel
theorem dX4_init_83 : decode cX4_init 83 = .ok (.putfield 38, 3) := by decide +kernel
theorem dX4_init_86 : decode cX4_init 86 = .ok (.aload_n 0, 1) := by decide +kernel
theorem dX4_init_87 : decode cX4_init 87 = .ok (.bipush 8, 2) := by decide +kernel
theorem dX4_init_89 : decode cX4_init 89 = .ok (.newarray .boolean, 2) := by decide +kernel
theorem dX4_init_91 : decode cX4_init 91 = .ok (.putfield 42, 3) := by decide +kernel
theorem dX4_init_94 : decode cX4_init 94 = .ok (.aload_n 0, 1) := by decide +kernel
theorem dX4_init_95 : decode cX4_init 95 = .ok (.iconst 4, 1) := by decide +kernel
theorem dX4_init_96 : decode cX4_init 96 = .ok (.anewarray 45, 3) := by decide +kernel
theorem dX4_init_99 : decode cX4_init 99 = .ok (.putfield 47, 3) := by decide +kernel
theorem dX4_init_102 : decode cX4_init 102 = .ok (.iconst 0, 1) := by decide +kernel
theorem dX4_init_103 : decode cX4_init 103 = .ok (.istore_n 1, 1) := by decide +kernel
theorem dX4_init_104 : decode cX4_init 104 = .ok (.iload_n 1, 1) := by decide +kernel
theorem dX4_init_105 : decode cX4_init 105 = .ok (.iconst 4, 1) := by decide +kernel
theorem dX4_init_106 : decode cX4_init 106 = .ok (.if_icmp .ge 22, 3) := by decide +kernel
theorem dX4_init_109 : decode cX4_init 109 = .ok (.aload_n 0, 1) := by decide +kernel
theorem dX4_init_110 : decode cX4_init 110 = .ok (.getfield 47, 3) := by decide +kernel
theorem dX4_init_113 : decode cX4_init 113 = .ok (.iload_n 1, 1) := by decide +kernel
theorem dX4_init_114 : decode cX4_init 114 = .ok (.new 45, 3) := by decide +kernel
theorem dX4_init_117 : decode cX4_init 117 = .ok (.dup, 1) := by decide +kernel
theorem dX4_init_118 : decode cX4_init 118 = .ok (.invokespecial 51, 3) := by decide +kernel
theorem dX4_init_121 : decode cX4_init 121 = .ok (.aastore, 1) := by decide +kernel
theorem dX4_init_122 : decode cX4_init 122 = .ok (.iinc 1 1, 3) := by decide +kernel
theorem dX4_init_125 : decode cX4_init 125 = .ok (.goto (-21), 3) := by decide +kernel
theorem dX4_init_128 : decode cX4_init 128 = .ok (.aload_n 0, 1) := by decide +kernel
theorem dX4_init_129 : decode cX4_init 129 = .ok (.bipush 64, 2) := by decide +kernel
theorem dX4_init_131 : decode cX4_init 131 = .ok (.newarray .int, 2) := by decide +kernel
theorem dX4_init_133 : decode cX4_init 133 = .ok (.putfield 52, 3) := by decide +kernel
theorem dX4_init_136 : decode cX4_init 136 = .ok (.return_, 1) := by decide +kernel
theorem dX4_feed_0 : decode cX4_feed 0 = .ok (.iload_n 1, 1) := by decide +kernel
theorem dX4_feed_1 : decode cX4_feed 1 = .ok (.ifCond .lt 9, 3) := by decide +kernel
theorem dX4_feed_4 : decode cX4_feed 4 = .ok (.iload_n 1, 1) := by decide +kernel
theorem dX4_feed_5 : decode cX4_feed 5 = .ok (.bipush 127, 2) := by decide +kernel
theorem dX4_feed_7 : decode cX4_feed 7 = .ok (.if_icmp .le 5, 3) := by decide +kernel
theorem dX4_feed_10 : decode cX4_feed 10 = .ok (.iconst (-1), 1) := by decide +kernel
theorem dX4_feed_11 : decode cX4_feed 11 = .ok (.ireturn, 1) := by decide +kernel
theorem dX4_feed_12 : decode cX4_feed 12 = .ok (.aload_n 0, 1) := by decide +kernel
theorem dX4_feed_13 : decode cX4_feed 13 = .ok (.getfield 34, 3) := by decide +kernel
theorem dX4_feed_16 : decode cX4_feed 16 = .ok (.getfield 55, 3) := by decide +kernel
theorem dX4_feed_19 : decode cX4_feed 19 = .ok (.sipush 160, 3) := by decide +kernel
theorem dX4_feed_22 : decode cX4_feed 22 = .ok (.if_icmp .lt 6, 3) := by decide +kernel
theorem dX4_feed_25 : decode cX4_feed 25 = .ok (.bipush (-3), 2) := by decide +kernel
theorem dX4_feed_27 : decode cX4_feed 27 = .ok (.ireturn, 1) := by decide +kernel
theorem dX4_feed_28 : decode cX4_feed 28 = .ok (.aload_n 0, 1) := by decide +kernel
theorem dX4_feed_29 : decode cX4_feed 29 = .ok (.getfield 34, 3) := by decide +kernel
theorem dX4_feed_32 : decode cX4_feed 32 = .ok (.iload_n 1, 1) := by decide +kernel
theorem dX4_feed_33 : decode cX4_feed 33 = .ok (.invokevirtual 59, 3) := by decide +kernel
theorem dX4_feed_36 : decode cX4_feed 36 = .ok (.aload_n 0, 1) := by decide +kernel
theorem dX4_feed_37 : decode cX4_feed 37 = .ok (.getfield 34, 3) := by decide +kernel
theorem dX4_feed_40 : decode cX4_feed 40 = .ok (.getfield 55, 3) := by decide +kernel
theorem dX4_feed_43 : decode cX4_feed 43 = .ok (.ireturn, 1) := by decide +kernel
theorem dX4_end_0 : decode cX4_end 0 = .ok (.iload_n 1, 1) := by decide +kernel
theorem dX4_end_1 : decode cX4_end 1 = .ok (.ifCond .lt 14, 3) := by decide +kernel
theorem dX4_end_4 : decode cX4_end 4 = .ok (.iload_n 1, 1) := by decide +kernel
theorem dX4_end_5 : decode cX4_end 5 = .ok (.aload_n 0, 1) := by decide +kernel
theorem dX4_end_6 : decode cX4_end 6 = .ok (.getfield 34, 3) := by decide +kernel
theorem dX4_end_9 : decode cX4_end 9 = .ok (.getfield 55, 3) := by decide +kernel
theorem dX4_end_12 : decode cX4_end 12 = .ok (.if_icmp .le 5, 3) := by decide +kernel
theorem dX4_end_15 : decode cX4_end 15 = .ok (.iconst (-1), 1) := by decide +kernel
theorem dX4_end_16 : decode cX4_end 16 = .ok (.ireturn, 1) := by decide +kernel
theorem dX4_end_17 : decode cX4_end 17 = .ok (.aload_n 0, 1) := by decide +kernel
theorem dX4_end_18 : decode cX4_end 18 = .ok (.getfield 34, 3) := by decide +kernel
theorem dX4_end_21 : decode cX4_end 21 = .ok (.getfield 55, 3) := by decide +kernel
theorem dX4_end_24 : decode cX4_end 24 = .ok (.istore_n 2, 1) := by decide +kernel
theorem dX4_end_25 : decode cX4_end 25 = .ok (.aload_n 0, 1) := by decide +kernel
theorem dX4_end_26 : decode cX4_end 26 = .ok (.getfield 34, 3) := by decide +kernel
theorem dX4_end_29 : decode cX4_end 29 = .ok (.iload_n 1, 1) := by decide +kernel
theorem dX4_end_30 : decode cX4_end 30 = .ok (.putfield 55, 3) := by decide +kernel
theorem dX4_end_33 : decode cX4_end 33 = .ok (.iload_n 2, 1) := by decide +kernel
theorem dX4_end_34 : decode cX4_end 34 = .ok (.ireturn, 1) := by decide +kernel
theorem dX4_text_0 : decode cX4_text 0 = .ok (.aload_n 0, 1) := by decide +kernel
theorem dX4_text_1 : decode cX4_text 1 = .ok (.getfield 34, 3) := by decide +kernel
theorem dX4_text_4 : decode cX4_text 4 = .ok (.invokevirtual 63, 3) := by decide +kernel
theorem dX4_text_7 : decode cX4_text 7 = .ok (.istore_n 1, 1) := by decide +kernel
theorem dX4_text_8 : decode cX4_text 8 = .ok (.aload_n 0, 1) := by decide +kernel
theorem dX4_text_9 : decode cX4_text 9 = .ok (.getfield 34, 3) := by decide +kernel
theorem dX4_text_12 : decode cX4_text 12 = .ok (.iconst 0, 1) := by decide +kernel
theorem dX4_text_13 : decode cX4_text 13 = .ok (.putfield 55, 3) := by decide +kernel
theorem dX4_text_16 : decode cX4_text 16 = .ok (.aload_n 0, 1) := by decide +kernel
theorem dX4_text_17 : decode cX4_text 17 = .ok (.getfield 34, 3) := by decide +kernel
theorem dX4_text_20 : decode cX4_text 20 = .ok (.getfield 67, 3) := by decide +kernel
theorem dX4_text_23 : decode cX4_text 23 = .ok (.ifCond .eq 14, 3) := by decide +kernel
theorem dX4_text_26 : decode cX4_text 26 = .ok (.bipush (-10), 2) := by decide +kernel
theorem dX4_text_28 : decode cX4_text 28 = .ok (.aload_n 0, 1) := by decide +kernel
theorem dX4_text_29 : decode cX4_text 29 = .ok (.getfield 34, 3) := by decide +kernel
theorem dX4_text_32 : decode cX4_text 32 = .ok (.getfield 70, 3) := by decide +kernel
theorem dX4_text_35 : decode cX4_text 35 = .ok (.isub, 1) := by decide +kernel
theorem dX4_text_36 : decode cX4_text 36 = .ok (.ireturn, 1) := by decide +kernel
theorem dX4_text_37 : decode cX4_text 37 = .ok (.aload_n 0, 1) := by decide +kernel
theorem dX4_text_38 : decode cX4_text 38 = .ok (.getfield 10, 3) := by decide +kernel
theorem dX4_text_41 : decode cX4_text 41 = .ok (.aload_n 0, 1) := by decide +kernel
theorem dX4_text_42 : decode cX4_text 42 = .ok (.getfield 34, 3) := by decide +kernel
theorem dX4_text_45 : decode cX4_text 45 = .ok (.getfield 73, 3) := by decide +kernel
theorem dX4_text_48 : decode cX4_text 48 = .ok (.invokevirtual 76, 3) := by decide +kernel
theorem dX4_text_51 : decode cX4_text 51 = .ok (.aload_n 0, 1) := by decide +kernel
theorem dX4_text_52 : decode cX4_text 52 = .ok (.iconst 0, 1) := by decide +kernel
theorem dX4_text_53 : decode cX4_text 53 = .ok (.putfield 80, 3) := by decide +kernel
theorem dX4_text_56 : decode cX4_text 56 = .ok (.iconst 0, 1) := by decide +kernel
theorem dX4_text_57 : decode cX4_text 57 = .ok (.istore_n 2, 1) := by decide +kernel
theorem dX4_text_58 : decode cX4_text 58 = .ok (.iload_n 2, 1) := by decide +kernel
theorem dX4_text_59 : decode cX4_text 59 = .ok (.iconst 2, 1) := by decide +kernel
theorem dX4_text_60 : decode cX4_text 60 = .ok (.if_icmp .ge 16, 3) := by decide +kernel
theorem dX4_text_63 : decode cX4_text 63 = .ok (.aload_n 0, 1) := by decide +kernel
theorem dX4_text_64 : decode cX4_text 64 = .ok (.getfield 20, 3) := by decide +kernel
theorem dX4_text_67 : decode cX4_text 67 = .ok (.iload_n 2, 1) := by decide +kernel
theorem dX4_text_68 : decode cX4_text 68 = .ok (.iconst 0, 1) := by decide +kernel
theorem dX4_text_69 : decode cX4_text 69 = .ok (.bastore, 1) := by decide +kernel
theorem dX4_text_70 : decode cX4_text 70 = .ok (.iinc 2 1, 3) := by decide +kernel
theorem dX4_text_73 : decode cX4_text 73 = .ok (.goto (-15), 3) := by decide +kernel
theorem dX4_text_76 : decode cX4_text 76 = .ok (.iload_n 1, 1) := by decide +kernel
theorem dX4_text_77 : decode cX4_text 77 = .ok (.ireturn, 1) := by decide +kernel
theorem dX4_fault_0 : decode cX4_fault 0 = .ok (.aload_n 0, 1) := by decide +kernel
theorem dX4_fault_1 : decode cX4_fault 1 = .ok (.getfield 34, 3) := by decide +kernel
theorem dX4_fault_4 : decode cX4_fault 4 = .ok (.getfield 67, 3) := by decide +kernel
theorem dX4_fault_7 : decode cX4_fault 7 = .ok (.ireturn, 1) := by decide +kernel
theorem dX4_rule_0 : decode cX4_rule 0 = .ok (.iload_n 1, 1) := by decide +kernel
theorem dX4_rule_1 : decode cX4_rule 1 = .ok (.tableswitch 99 0 6 #[43, 51, 59, 67, 75, 83, 91], 43) := by decide +kernel
theorem dX4_rule_44 : decode cX4_rule 44 = .ok (.aload_n 0, 1) := by decide +kernel
theorem dX4_rule_45 : decode cX4_rule 45 = .ok (.getfield 10, 3) := by decide +kernel
theorem dX4_rule_48 : decode cX4_rule 48 = .ok (.getfield 83, 3) := by decide +kernel
theorem dX4_rule_51 : decode cX4_rule 51 = .ok (.ireturn, 1) := by decide +kernel
theorem dX4_rule_52 : decode cX4_rule 52 = .ok (.aload_n 0, 1) := by decide +kernel
theorem dX4_rule_53 : decode cX4_rule 53 = .ok (.getfield 10, 3) := by decide +kernel
theorem dX4_rule_56 : decode cX4_rule 56 = .ok (.getfield 86, 3) := by decide +kernel
theorem dX4_rule_59 : decode cX4_rule 59 = .ok (.ireturn, 1) := by decide +kernel
theorem dX4_rule_60 : decode cX4_rule 60 = .ok (.aload_n 0, 1) := by decide +kernel
theorem dX4_rule_61 : decode cX4_rule 61 = .ok (.getfield 10, 3) := by decide +kernel
theorem dX4_rule_64 : decode cX4_rule 64 = .ok (.getfield 89, 3) := by decide +kernel
theorem dX4_rule_67 : decode cX4_rule 67 = .ok (.ireturn, 1) := by decide +kernel
theorem dX4_rule_68 : decode cX4_rule 68 = .ok (.aload_n 0, 1) := by decide +kernel
theorem dX4_rule_69 : decode cX4_rule 69 = .ok (.getfield 10, 3) := by decide +kernel
theorem dX4_rule_72 : decode cX4_rule 72 = .ok (.getfield 92, 3) := by decide +kernel
theorem dX4_rule_75 : decode cX4_rule 75 = .ok (.ireturn, 1) := by decide +kernel
theorem dX4_rule_76 : decode cX4_rule 76 = .ok (.aload_n 0, 1) := by decide +kernel
theorem dX4_rule_77 : decode cX4_rule 77 = .ok (.getfield 10, 3) := by decide +kernel
theorem dX4_rule_80 : decode cX4_rule 80 = .ok (.getfield 95, 3) := by decide +kernel
theorem dX4_rule_83 : decode cX4_rule 83 = .ok (.ireturn, 1) := by decide +kernel
theorem dX4_rule_84 : decode cX4_rule 84 = .ok (.aload_n 0, 1) := by decide +kernel
theorem dX4_rule_85 : decode cX4_rule 85 = .ok (.getfield 10, 3) := by decide +kernel
theorem dX4_rule_88 : decode cX4_rule 88 = .ok (.getfield 98, 3) := by decide +kernel
theorem dX4_rule_91 : decode cX4_rule 91 = .ok (.ireturn, 1) := by decide +kernel
theorem dX4_rule_92 : decode cX4_rule 92 = .ok (.aload_n 0, 1) := by decide +kernel
theorem dX4_rule_93 : decode cX4_rule 93 = .ok (.getfield 10, 3) := by decide +kernel
theorem dX4_rule_96 : decode cX4_rule 96 = .ok (.getfield 101, 3) := by decide +kernel
theorem dX4_rule_99 : decode cX4_rule 99 = .ok (.ireturn, 1) := by decide +kernel
theorem dX4_rule_100 : decode cX4_rule 100 = .ok (.iconst (-1), 1) := by decide +kernel
theorem dX4_rule_101 : decode cX4_rule 101 = .ok (.ireturn, 1) := by decide +kernel
theorem dX4_law_0 : decode cX4_law 0 = .ok (.aload_n 0, 1) := by decide +kernel
theorem dX4_law_1 : decode cX4_law 1 = .ok (.getfield 10, 3) := by decide +kernel
theorem dX4_law_4 : decode cX4_law 4 = .ok (.iload_n 1, 1) := by decide +kernel
theorem dX4_law_5 : decode cX4_law 5 = .ok (.invokevirtual 104, 3) := by decide +kernel
theorem dX4_law_8 : decode cX4_law 8 = .ok (.ifCond .ne 5, 3) := by decide +kernel
theorem dX4_law_11 : decode cX4_law 11 = .ok (.iconst (-1), 1) := by decide +kernel
theorem dX4_law_12 : decode cX4_law 12 = .ok (.ireturn, 1) := by decide +kernel
theorem dX4_law_13 : decode cX4_law 13 = .ok (.iload_n 2, 1) := by decide +kernel
theorem dX4_law_14 : decode cX4_law 14 = .ok (.tableswitch 98 0 4 #[34, 44, 54, 64, 74], 34) := by decide +kernel
theorem dX4_law_48 : decode cX4_law 48 = .ok (.aload_n 0, 1) := by decide +kernel
theorem dX4_law_49 : decode cX4_law 49 = .ok (.getfield 10, 3) := by decide +kernel
theorem dX4_law_52 : decode cX4_law 52 = .ok (.getfield 108, 3) := by decide +kernel
theorem dX4_law_55 : decode cX4_law 55 = .ok (.iload_n 1, 1) := by decide +kernel
theorem dX4_law_56 : decode cX4_law 56 = .ok (.iaload, 1) := by decide +kernel
theorem dX4_law_57 : decode cX4_law 57 = .ok (.ireturn, 1) := by decide +kernel
theorem dX4_law_58 : decode cX4_law 58 = .ok (.aload_n 0, 1) := by decide +kernel
theorem dX4_law_59 : decode cX4_law 59 = .ok (.getfield 10, 3) := by decide +kernel
theorem dX4_law_62 : decode cX4_law 62 = .ok (.getfield 111, 3) := by decide +kernel
theorem dX4_law_65 : decode cX4_law 65 = .ok (.iload_n 1, 1) := by decide +kernel
theorem dX4_law_66 : decode cX4_law 66 = .ok (.iaload, 1) := by decide +kernel
theorem dX4_law_67 : decode cX4_law 67 = .ok (.ireturn, 1) := by decide +kernel
theorem dX4_law_68 : decode cX4_law 68 = .ok (.aload_n 0, 1) := by decide +kernel
theorem dX4_law_69 : decode cX4_law 69 = .ok (.getfield 10, 3) := by decide +kernel
theorem dX4_law_72 : decode cX4_law 72 = .ok (.getfield 114, 3) := by decide +kernel
theorem dX4_law_75 : decode cX4_law 75 = .ok (.iload_n 1, 1) := by decide +kernel
theorem dX4_law_76 : decode cX4_law 76 = .ok (.iaload, 1) := by decide +kernel
theorem dX4_law_77 : decode cX4_law 77 = .ok (.ireturn, 1) := by decide +kernel
theorem dX4_law_78 : decode cX4_law 78 = .ok (.aload_n 0, 1) := by decide +kernel
theorem dX4_law_79 : decode cX4_law 79 = .ok (.getfield 10, 3) := by decide +kernel
theorem dX4_law_82 : decode cX4_law 82 = .ok (.getfield 117, 3) := by decide +kernel
theorem dX4_law_85 : decode cX4_law 85 = .ok (.iload_n 1, 1) := by decide +kernel
theorem dX4_law_86 : decode cX4_law 86 = .ok (.iaload, 1) := by decide +kernel
theorem dX4_law_87 : decode cX4_law 87 = .ok (.ireturn, 1) := by decide +kernel
theorem dX4_law_88 : decode cX4_law 88 = .ok (.aload_n 0, 1) := by decide +kernel
theorem dX4_law_89 : decode cX4_law 89 = .ok (.getfield 10, 3) := by decide +kernel
theorem dX4_law_92 : decode cX4_law 92 = .ok (.iload_n 1, 1) := by decide +kernel
theorem dX4_law_93 : decode cX4_law 93 = .ok (.aload_n 0, 1) := by decide +kernel
theorem dX4_law_94 : decode cX4_law 94 = .ok (.getfield 10, 3) := by decide +kernel
theorem dX4_law_97 : decode cX4_law 97 = .ok (.getfield 98, 3) := by decide +kernel
theorem dX4_law_100 : decode cX4_law 100 = .ok (.invokevirtual 120, 3) := by decide +kernel
theorem dX4_law_103 : decode cX4_law 103 = .ok (.ifCond .eq 7, 3) := by decide +kernel
theorem dX4_law_106 : decode cX4_law 106 = .ok (.iconst 1, 1) := by decide +kernel
theorem dX4_law_107 : decode cX4_law 107 = .ok (.goto 4, 3) := by decide +kernel
theorem dX4_law_110 : decode cX4_law 110 = .ok (.iconst 0, 1) := by decide +kernel
theorem dX4_law_111 : decode cX4_law 111 = .ok (.ireturn, 1) := by decide +kernel
theorem dX4_law_112 : decode cX4_law 112 = .ok (.iconst (-1), 1) := by decide +kernel
theorem dX4_law_113 : decode cX4_law 113 = .ok (.ireturn, 1) := by decide +kernel
theorem dX4_worth_0 : decode cX4_worth 0 = .ok (.aload_n 0, 1) := by decide +kernel
theorem dX4_worth_1 : decode cX4_worth 1 = .ok (.getfield 10, 3) := by decide +kernel
theorem dX4_worth_4 : decode cX4_worth 4 = .ok (.iload_n 1, 1) := by decide +kernel
theorem dX4_worth_5 : decode cX4_worth 5 = .ok (.invokevirtual 124, 3) := by decide +kernel
theorem dX4_worth_8 : decode cX4_worth 8 = .ok (.ifCond .eq 18, 3) := by decide +kernel
theorem dX4_worth_11 : decode cX4_worth 11 = .ok (.bipush 100, 2) := by decide +kernel
theorem dX4_worth_13 : decode cX4_worth 13 = .ok (.aload_n 0, 1) := by decide +kernel
theorem dX4_worth_14 : decode cX4_worth 14 = .ok (.getfield 10, 3) := by decide +kernel
theorem dX4_worth_17 : decode cX4_worth 17 = .ok (.getfield 127, 3) := by decide +kernel
theorem dX4_worth_20 : decode cX4_worth 20 = .ok (.iload_n 1, 1) := by decide +kernel
theorem dX4_worth_21 : decode cX4_worth 21 = .ok (.iaload, 1) := by decide +kernel
theorem dX4_worth_22 : decode cX4_worth 22 = .ok (.iadd, 1) := by decide +kernel
theorem dX4_worth_23 : decode cX4_worth 23 = .ok (.goto 4, 3) := by decide +kernel
theorem dX4_worth_26 : decode cX4_worth 26 = .ok (.iconst (-1), 1) := by decide +kernel
theorem dX4_worth_27 : decode cX4_worth 27 = .ok (.ireturn, 1) := by decide +kernel
theorem dX4_write_0 : decode cX4_write 0 = .ok (.aload_n 0, 1) := by decide +kernel
theorem dX4_write_1 : decode cX4_write 1 = .ok (.iload_n 1, 1) := by decide +kernel
theorem dX4_write_2 : decode cX4_write 2 = .ok (.iload_n 2, 1) := by decide +kernel
theorem dX4_write_3 : decode cX4_write 3 = .ok (.invokevirtual 130, 3) := by decide +kernel
theorem dX4_write_6 : decode cX4_write 6 = .ok (.istore_n 3, 1) := by decide +kernel
theorem dX4_write_7 : decode cX4_write 7 = .ok (.iload_n 3, 1) := by decide +kernel
theorem dX4_write_8 : decode cX4_write 8 = .ok (.ifCond .eq 5, 3) := by decide +kernel
theorem dX4_write_11 : decode cX4_write 11 = .ok (.iload_n 3, 1) := by decide +kernel
theorem dX4_write_12 : decode cX4_write 12 = .ok (.ireturn, 1) := by decide +kernel
theorem dX4_write_13 : decode cX4_write 13 = .ok (.aload_n 0, 1) := by decide +kernel
theorem dX4_write_14 : decode cX4_write 14 = .ok (.getfield 10, 3) := by decide +kernel
theorem dX4_write_17 : decode cX4_write 17 = .ok (.getfield 98, 3) := by decide +kernel
theorem dX4_write_20 : decode cX4_write 20 = .ok (.iload_n 1, 1) := by decide +kernel
theorem dX4_write_21 : decode cX4_write 21 = .ok (.invokestatic 134, 3) := by decide +kernel
theorem dX4_write_24 : decode cX4_write 24 = .ok (.istore 4, 2) := by decide +kernel
theorem dX4_write_26 : decode cX4_write 26 = .ok (.aload_n 0, 1) := by decide +kernel
theorem dX4_write_27 : decode cX4_write 27 = .ok (.getfield 10, 3) := by decide +kernel
theorem dX4_write_30 : decode cX4_write 30 = .ok (.aload_n 0, 1) := by decide +kernel
theorem dX4_write_31 : decode cX4_write 31 = .ok (.getfield 10, 3) := by decide +kernel
theorem dX4_write_34 : decode cX4_write 34 = .ok (.getfield 98, 3) := by decide +kernel
theorem dX4_write_37 : decode cX4_write 37 = .ok (.iload_n 1, 1) := by decide +kernel
theorem dX4_write_38 : decode cX4_write 38 = .ok (.iload_n 2, 1) := by decide +kernel
theorem dX4_write_39 : decode cX4_write 39 = .ok (.invokestatic 138, 3) := by decide +kernel
theorem dX4_write_42 : decode cX4_write 42 = .ok (.putfield 98, 3) := by decide +kernel
theorem dX4_write_45 : decode cX4_write 45 = .ok (.iload 4, 2) := by decide +kernel
theorem dX4_write_47 : decode cX4_write 47 = .ok (.ireturn, 1) := by decide +kernel
theorem dX4_home_0 : decode cX4_home 0 = .ok (.iload_n 1, 1) := by decide +kernel
theorem dX4_home_1 : decode cX4_home 1 = .ok (.ifCond .lt 14, 3) := by decide +kernel
theorem dX4_home_4 : decode cX4_home 4 = .ok (.iload_n 1, 1) := by decide +kernel
theorem dX4_home_5 : decode cX4_home 5 = .ok (.aload_n 0, 1) := by decide +kernel
theorem dX4_home_6 : decode cX4_home 6 = .ok (.getfield 10, 3) := by decide +kernel
theorem dX4_home_9 : decode cX4_home 9 = .ok (.getfield 86, 3) := by decide +kernel
theorem dX4_home_12 : decode cX4_home 12 = .ok (.if_icmp .lt 5, 3) := by decide +kernel
theorem dX4_home_15 : decode cX4_home 15 = .ok (.iconst (-1), 1) := by decide +kernel
theorem dX4_home_16 : decode cX4_home 16 = .ok (.ireturn, 1) := by decide +kernel
theorem dX4_home_17 : decode cX4_home 17 = .ok (.aload_n 0, 1) := by decide +kernel
theorem dX4_home_18 : decode cX4_home 18 = .ok (.getfield 10, 3) := by decide +kernel
theorem dX4_home_21 : decode cX4_home 21 = .ok (.getfield 92, 3) := by decide +kernel
theorem dX4_home_24 : decode cX4_home 24 = .ok (.iload_n 1, 1) := by decide +kernel
theorem dX4_home_25 : decode cX4_home 25 = .ok (.invokestatic 134, 3) := by decide +kernel
theorem dX4_home_28 : decode cX4_home 28 = .ok (.istore_n 3, 1) := by decide +kernel
theorem dX4_home_29 : decode cX4_home 29 = .ok (.aload_n 0, 1) := by decide +kernel
theorem dX4_home_30 : decode cX4_home 30 = .ok (.getfield 10, 3) := by decide +kernel
theorem dX4_home_33 : decode cX4_home 33 = .ok (.aload_n 0, 1) := by decide +kernel
theorem dX4_home_34 : decode cX4_home 34 = .ok (.getfield 10, 3) := by decide +kernel
theorem dX4_home_37 : decode cX4_home 37 = .ok (.getfield 92, 3) := by decide +kernel
theorem dX4_home_40 : decode cX4_home 40 = .ok (.iload_n 1, 1) := by decide +kernel
theorem dX4_home_41 : decode cX4_home 41 = .ok (.iload_n 2, 1) := by decide +kernel
theorem dX4_home_42 : decode cX4_home 42 = .ok (.invokestatic 138, 3) := by decide +kernel
theorem dX4_home_45 : decode cX4_home 45 = .ok (.putfield 92, 3) := by decide +kernel
theorem dX4_home_48 : decode cX4_home 48 = .ok (.iload_n 3, 1) := by decide +kernel
theorem dX4_home_49 : decode cX4_home 49 = .ok (.ireturn, 1) := by decide +kernel
theorem dX4_stop_0 : decode cX4_stop 0 = .ok (.aload_n 0, 1) := by decide +kernel
theorem dX4_stop_1 : decode cX4_stop 1 = .ok (.getfield 10, 3) := by decide +kernel
theorem dX4_stop_4 : decode cX4_stop 4 = .ok (.iload_n 1, 1) := by decide +kernel
theorem dX4_stop_5 : decode cX4_stop 5 = .ok (.invokevirtual 124, 3) := by decide +kernel
theorem dX4_stop_8 : decode cX4_stop 8 = .ok (.ifCond .ne 5, 3) := by decide +kernel
theorem dX4_stop_11 : decode cX4_stop 11 = .ok (.iconst (-1), 1) := by decide +kernel
theorem dX4_stop_12 : decode cX4_stop 12 = .ok (.ireturn, 1) := by decide +kernel
theorem dX4_stop_13 : decode cX4_stop 13 = .ok (.aload_n 0, 1) := by decide +kernel
theorem dX4_stop_14 : decode cX4_stop 14 = .ok (.getfield 10, 3) := by decide +kernel
theorem dX4_stop_17 : decode cX4_stop 17 = .ok (.getfield 95, 3) := by decide +kernel
theorem dX4_stop_20 : decode cX4_stop 20 = .ok (.iload_n 1, 1) := by decide +kernel
theorem dX4_stop_21 : decode cX4_stop 21 = .ok (.invokestatic 134, 3) := by decide +kernel
theorem dX4_stop_24 : decode cX4_stop 24 = .ok (.istore_n 3, 1) := by decide +kernel
theorem dX4_stop_25 : decode cX4_stop 25 = .ok (.aload_n 0, 1) := by decide +kernel
theorem dX4_stop_26 : decode cX4_stop 26 = .ok (.getfield 10, 3) := by decide +kernel
theorem dX4_stop_29 : decode cX4_stop 29 = .ok (.aload_n 0, 1) := by decide +kernel
theorem dX4_stop_30 : decode cX4_stop 30 = .ok (.getfield 10, 3) := by decide +kernel
theorem dX4_stop_33 : decode cX4_stop 33 = .ok (.getfield 95, 3) := by decide +kernel
theorem dX4_stop_36 : decode cX4_stop 36 = .ok (.iload_n 1, 1) := by decide +kernel
theorem dX4_stop_37 : decode cX4_stop 37 = .ok (.iload_n 2, 1) := by decide +kernel
theorem dX4_stop_38 : decode cX4_stop 38 = .ok (.invokestatic 138, 3) := by decide +kernel
theorem dX4_stop_41 : decode cX4_stop 41 = .ok (.putfield 95, 3) := by decide +kernel
theorem dX4_stop_44 : decode cX4_stop 44 = .ok (.iload_n 3, 1) := by decide +kernel
theorem dX4_stop_45 : decode cX4_stop 45 = .ok (.ireturn, 1) := by decide +kernel
theorem dX4_need_0 : decode cX4_need 0 = .ok (.aload_n 0, 1) := by decide +kernel
theorem dX4_need_1 : decode cX4_need 1 = .ok (.aload_n 0, 1) := by decide +kernel
theorem dX4_need_2 : decode cX4_need 2 = .ok (.getfield 10, 3) := by decide +kernel
theorem dX4_need_5 : decode cX4_need 5 = .ok (.getfield 114, 3) := by decide +kernel
theorem dX4_need_8 : decode cX4_need 8 = .ok (.aload_n 0, 1) := by decide +kernel
theorem dX4_need_9 : decode cX4_need 9 = .ok (.getfield 10, 3) := by decide +kernel
theorem dX4_need_12 : decode cX4_need 12 = .ok (.getfield 117, 3) := by decide +kernel
theorem dX4_need_15 : decode cX4_need 15 = .ok (.iload_n 1, 1) := by decide +kernel
theorem dX4_need_16 : decode cX4_need 16 = .ok (.iload_n 2, 1) := by decide +kernel
theorem dX4_need_17 : decode cX4_need 17 = .ok (.iload_n 3, 1) := by decide +kernel
theorem dX4_need_18 : decode cX4_need 18 = .ok (.invokevirtual 142, 3) := by decide +kernel
theorem dX4_need_21 : decode cX4_need 21 = .ok (.ireturn, 1) := by decide +kernel
theorem dX4_bar_0 : decode cX4_bar 0 = .ok (.aload_n 0, 1) := by decide +kernel
theorem dX4_bar_1 : decode cX4_bar 1 = .ok (.aload_n 0, 1) := by decide +kernel
theorem dX4_bar_2 : decode cX4_bar 2 = .ok (.getfield 10, 3) := by decide +kernel
theorem dX4_bar_5 : decode cX4_bar 5 = .ok (.getfield 117, 3) := by decide +kernel
theorem dX4_bar_8 : decode cX4_bar 8 = .ok (.aload_n 0, 1) := by decide +kernel
theorem dX4_bar_9 : decode cX4_bar 9 = .ok (.getfield 10, 3) := by decide +kernel
theorem dX4_bar_12 : decode cX4_bar 12 = .ok (.getfield 114, 3) := by decide +kernel
theorem dX4_bar_15 : decode cX4_bar 15 = .ok (.iload_n 1, 1) := by decide +kernel
theorem dX4_bar_16 : decode cX4_bar 16 = .ok (.iload_n 2, 1) := by decide +kernel
theorem dX4_bar_17 : decode cX4_bar 17 = .ok (.iload_n 3, 1) := by decide +kernel
theorem dX4_bar_18 : decode cX4_bar 18 = .ok (.invokevirtual 142, 3) := by decide +kernel
theorem dX4_bar_21 : decode cX4_bar 21 = .ok (.ireturn, 1) := by decide +kernel
theorem dX4_pay_0 : decode cX4_pay 0 = .ok (.aload_n 0, 1) := by decide +kernel
theorem dX4_pay_1 : decode cX4_pay 1 = .ok (.getfield 10, 3) := by decide +kernel
theorem dX4_pay_4 : decode cX4_pay 4 = .ok (.iload_n 1, 1) := by decide +kernel
theorem dX4_pay_5 : decode cX4_pay 5 = .ok (.invokevirtual 124, 3) := by decide +kernel
theorem dX4_pay_8 : decode cX4_pay 8 = .ok (.ifCond .eq 15, 3) := by decide +kernel
theorem dX4_pay_11 : decode cX4_pay 11 = .ok (.iload_n 2, 1) := by decide +kernel
theorem dX4_pay_12 : decode cX4_pay 12 = .ok (.bipush (-9), 2) := by decide +kernel
theorem dX4_pay_14 : decode cX4_pay 14 = .ok (.if_icmp .lt 9, 3) := by decide +kernel
theorem dX4_pay_17 : decode cX4_pay 17 = .ok (.iload_n 2, 1) := by decide +kernel
theorem dX4_pay_18 : decode cX4_pay 18 = .ok (.bipush 9, 2) := by decide +kernel
theorem dX4_pay_20 : decode cX4_pay 20 = .ok (.if_icmp .le 5, 3) := by decide +kernel
theorem dX4_pay_23 : decode cX4_pay 23 = .ok (.iconst (-1), 1) := by decide +kernel
theorem dX4_pay_24 : decode cX4_pay 24 = .ok (.ireturn, 1) := by decide +kernel
theorem dX4_pay_25 : decode cX4_pay 25 = .ok (.aload_n 0, 1) := by decide +kernel
theorem dX4_pay_26 : decode cX4_pay 26 = .ok (.getfield 10, 3) := by decide +kernel
theorem dX4_pay_29 : decode cX4_pay 29 = .ok (.getfield 127, 3) := by decide +kernel
theorem dX4_pay_32 : decode cX4_pay 32 = .ok (.iload_n 1, 1) := by decide +kernel
theorem dX4_pay_33 : decode cX4_pay 33 = .ok (.iaload, 1) := by decide +kernel
theorem dX4_pay_34 : decode cX4_pay 34 = .ok (.istore_n 3, 1) := by decide +kernel
theorem dX4_pay_35 : decode cX4_pay 35 = .ok (.aload_n 0, 1) := by decide +kernel
theorem dX4_pay_36 : decode cX4_pay 36 = .ok (.getfield 10, 3) := by decide +kernel
theorem dX4_pay_39 : decode cX4_pay 39 = .ok (.getfield 127, 3) := by decide +kernel
theorem dX4_pay_42 : decode cX4_pay 42 = .ok (.iload_n 1, 1) := by decide +kernel
theorem dX4_pay_43 : decode cX4_pay 43 = .ok (.iload_n 2, 1) := by decide +kernel
theorem dX4_pay_44 : decode cX4_pay 44 = .ok (.iastore, 1) := by decide +kernel
theorem dX4_pay_45 : decode cX4_pay 45 = .ok (.bipush 100, 2) := by decide +kernel
theorem dX4_pay_47 : decode cX4_pay 47 = .ok (.iload_n 3, 1) := by decide +kernel
theorem dX4_pay_48 : decode cX4_pay 48 = .ok (.iadd, 1) := by decide +kernel
theorem dX4_pay_49 : decode cX4_pay 49 = .ok (.ireturn, 1) := by decide +kernel
theorem dX4_cut_0 : decode cX4_cut 0 = .ok (.iload_n 1, 1) := by decide +kernel
theorem dX4_cut_1 : decode cX4_cut 1 = .ok (.ifCond .lt 14, 3) := by decide +kernel
theorem dX4_cut_4 : decode cX4_cut 4 = .ok (.iload_n 1, 1) := by decide +kernel
theorem dX4_cut_5 : decode cX4_cut 5 = .ok (.aload_n 0, 1) := by decide +kernel
theorem dX4_cut_6 : decode cX4_cut 6 = .ok (.getfield 10, 3) := by decide +kernel
theorem dX4_cut_9 : decode cX4_cut 9 = .ok (.getfield 89, 3) := by decide +kernel
theorem dX4_cut_12 : decode cX4_cut 12 = .ok (.if_icmp .le 5, 3) := by decide +kernel
theorem dX4_cut_15 : decode cX4_cut 15 = .ok (.iconst (-1), 1) := by decide +kernel
theorem dX4_cut_16 : decode cX4_cut 16 = .ok (.ireturn, 1) := by decide +kernel
theorem dX4_cut_17 : decode cX4_cut 17 = .ok (.aload_n 0, 1) := by decide +kernel
theorem dX4_cut_18 : decode cX4_cut 18 = .ok (.getfield 10, 3) := by decide +kernel
theorem dX4_cut_21 : decode cX4_cut 21 = .ok (.getfield 89, 3) := by decide +kernel
theorem dX4_cut_24 : decode cX4_cut 24 = .ok (.istore_n 2, 1) := by decide +kernel
theorem dX4_cut_25 : decode cX4_cut 25 = .ok (.aload_n 0, 1) := by decide +kernel
theorem dX4_cut_26 : decode cX4_cut 26 = .ok (.getfield 10, 3) := by decide +kernel
theorem dX4_cut_29 : decode cX4_cut 29 = .ok (.iload_n 1, 1) := by decide +kernel
theorem dX4_cut_30 : decode cX4_cut 30 = .ok (.putfield 89, 3) := by decide +kernel
theorem dX4_cut_33 : decode cX4_cut 33 = .ok (.iload_n 2, 1) := by decide +kernel
theorem dX4_cut_34 : decode cX4_cut 34 = .ok (.ireturn, 1) := by decide +kernel
theorem dX4_brings_0 : decode cX4_brings 0 = .ok (.aload_n 0, 1) := by decide +kernel
theorem dX4_brings_1 : decode cX4_brings 1 = .ok (.getfield 10, 3) := by decide +kernel
theorem dX4_brings_4 : decode cX4_brings 4 = .ok (.iload_n 1, 1) := by decide +kernel
theorem dX4_brings_5 : decode cX4_brings 5 = .ok (.invokevirtual 146, 3) := by decide +kernel
theorem dX4_brings_8 : decode cX4_brings 8 = .ok (.ifCond .eq 14, 3) := by decide +kernel
theorem dX4_brings_11 : decode cX4_brings 11 = .ok (.aload_n 0, 1) := by decide +kernel
theorem dX4_brings_12 : decode cX4_brings 12 = .ok (.getfield 10, 3) := by decide +kernel
theorem dX4_brings_15 : decode cX4_brings 15 = .ok (.iload_n 1, 1) := by decide +kernel
theorem dX4_brings_16 : decode cX4_brings 16 = .ok (.invokevirtual 149, 3) := by decide +kernel
theorem dX4_brings_19 : decode cX4_brings 19 = .ok (.goto 4, 3) := by decide +kernel
theorem dX4_brings_22 : decode cX4_brings 22 = .ok (.iconst (-1), 1) := by decide +kernel
theorem dX4_brings_23 : decode cX4_brings 23 = .ok (.ireturn, 1) := by decide +kernel
theorem dX4_day_0 : decode cX4_day 0 = .ok (.iload_n 1, 1) := by decide +kernel
theorem dX4_day_1 : decode cX4_day 1 = .ok (.ifCond .lt 9, 3) := by decide +kernel
theorem dX4_day_4 : decode cX4_day 4 = .ok (.iload_n 1, 1) := by decide +kernel
theorem dX4_day_5 : decode cX4_day 5 = .ok (.bipush 60, 2) := by decide +kernel
theorem dX4_day_7 : decode cX4_day 7 = .ok (.if_icmp .le 5, 3) := by decide +kernel
theorem dX4_day_10 : decode cX4_day 10 = .ok (.iconst (-1), 1) := by decide +kernel
theorem dX4_day_11 : decode cX4_day 11 = .ok (.ireturn, 1) := by decide +kernel
theorem dX4_day_12 : decode cX4_day 12 = .ok (.aload_n 0, 1) := by decide +kernel
theorem dX4_day_13 : decode cX4_day 13 = .ok (.getfield 10, 3) := by decide +kernel
theorem dX4_day_16 : decode cX4_day 16 = .ok (.getfield 101, 3) := by decide +kernel
theorem dX4_day_19 : decode cX4_day 19 = .ok (.iload_n 1, 1) := by decide +kernel
theorem dX4_day_20 : decode cX4_day 20 = .ok (.iadd, 1) := by decide +kernel
theorem dX4_day_21 : decode cX4_day 21 = .ok (.sipush 1000, 3) := by decide +kernel
theorem dX4_day_24 : decode cX4_day 24 = .ok (.if_icmp .lt 6, 3) := by decide +kernel
theorem dX4_day_27 : decode cX4_day 27 = .ok (.bipush (-3), 2) := by decide +kernel
theorem dX4_day_29 : decode cX4_day 29 = .ok (.ireturn, 1) := by decide +kernel
theorem dX4_day_30 : decode cX4_day 30 = .ok (.iconst 0, 1) := by decide +kernel
theorem dX4_day_31 : decode cX4_day 31 = .ok (.istore_n 2, 1) := by decide +kernel
theorem dX4_day_32 : decode cX4_day 32 = .ok (.iload_n 2, 1) := by decide +kernel
theorem dX4_day_33 : decode cX4_day 33 = .ok (.iload_n 1, 1) := by decide +kernel
theorem dX4_day_34 : decode cX4_day 34 = .ok (.if_icmp .ge 30, 3) := by decide +kernel
theorem dX4_day_37 : decode cX4_day 37 = .ok (.aload_n 0, 1) := by decide +kernel
theorem dX4_day_38 : decode cX4_day 38 = .ok (.getfield 10, 3) := by decide +kernel
theorem dX4_day_41 : decode cX4_day 41 = .ok (.aload_n 0, 1) := by decide +kernel
theorem dX4_day_42 : decode cX4_day 42 = .ok (.getfield 10, 3) := by decide +kernel
theorem dX4_day_45 : decode cX4_day 45 = .ok (.aload_n 0, 1) := by decide +kernel
theorem dX4_day_46 : decode cX4_day 46 = .ok (.getfield 10, 3) := by decide +kernel
theorem dX4_day_49 : decode cX4_day 49 = .ok (.getfield 98, 3) := by decide +kernel
theorem dX4_day_52 : decode cX4_day 52 = .ok (.invokevirtual 149, 3) := by decide +kernel
theorem dX4_day_55 : decode cX4_day 55 = .ok (.putfield 98, 3) := by decide +kernel
theorem dX4_day_58 : decode cX4_day 58 = .ok (.iinc 2 1, 3) := by decide +kernel
theorem dX4_day_61 : decode cX4_day 61 = .ok (.goto (-29), 3) := by decide +kernel
theorem dX4_day_64 : decode cX4_day 64 = .ok (.aload_n 0, 1) := by decide +kernel
theorem dX4_day_65 : decode cX4_day 65 = .ok (.getfield 10, 3) := by decide +kernel
theorem dX4_day_68 : decode cX4_day 68 = .ok (.dup, 1) := by decide +kernel
theorem dX4_day_69 : decode cX4_day 69 = .ok (.getfield 101, 3) := by decide +kernel
theorem dX4_day_72 : decode cX4_day 72 = .ok (.iload_n 1, 1) := by decide +kernel
theorem dX4_day_73 : decode cX4_day 73 = .ok (.iadd, 1) := by decide +kernel
theorem dX4_day_74 : decode cX4_day 74 = .ok (.putfield 101, 3) := by decide +kernel
theorem dX4_day_77 : decode cX4_day 77 = .ok (.aload_n 0, 1) := by decide +kernel
theorem dX4_day_78 : decode cX4_day 78 = .ok (.getfield 10, 3) := by decide +kernel
theorem dX4_day_81 : decode cX4_day 81 = .ok (.getfield 98, 3) := by decide +kernel
theorem dX4_day_84 : decode cX4_day 84 = .ok (.ireturn, 1) := by decide +kernel
theorem dX4_round_0 : decode cX4_round 0 = .ok (.aload_n 0, 1) := by decide +kernel
theorem dX4_round_1 : decode cX4_round 1 = .ok (.getfield 10, 3) := by decide +kernel
theorem dX4_round_4 : decode cX4_round 4 = .ok (.iload_n 1, 1) := by decide +kernel
theorem dX4_round_5 : decode cX4_round 5 = .ok (.invokevirtual 146, 3) := by decide +kernel
theorem dX4_round_8 : decode cX4_round 8 = .ok (.ifCond .eq 10, 3) := by decide +kernel
theorem dX4_round_11 : decode cX4_round 11 = .ok (.iload_n 2, 1) := by decide +kernel
theorem dX4_round_12 : decode cX4_round 12 = .ok (.invokestatic 153, 3) := by decide +kernel
theorem dX4_round_15 : decode cX4_round 15 = .ok (.ifCond .ne 5, 3) := by decide +kernel
theorem dX4_round_18 : decode cX4_round 18 = .ok (.iconst (-1), 1) := by decide +kernel
theorem dX4_round_19 : decode cX4_round 19 = .ok (.ireturn, 1) := by decide +kernel
theorem dX4_round_20 : decode cX4_round 20 = .ok (.aload_n 0, 1) := by decide +kernel
theorem dX4_round_21 : decode cX4_round 21 = .ok (.getfield 52, 3) := by decide +kernel
theorem dX4_round_24 : decode cX4_round 24 = .ok (.iconst (-1), 1) := by decide +kernel
theorem dX4_round_25 : decode cX4_round 25 = .ok (.invokestatic 156, 3) := by decide +kernel
theorem dX4_round_28 : decode cX4_round 28 = .ok (.iload_n 1, 1) := by decide +kernel
theorem dX4_round_29 : decode cX4_round 29 = .ok (.istore_n 3, 1) := by decide +kernel
theorem dX4_round_30 : decode cX4_round 30 = .ok (.iconst 0, 1) := by decide +kernel
theorem dX4_round_31 : decode cX4_round 31 = .ok (.istore 4, 2) := by decide +kernel
theorem dX4_round_33 : decode cX4_round 33 = .ok (.iload 4, 2) := by decide +kernel
theorem dX4_round_35 : decode cX4_round 35 = .ok (.bipush 64, 2) := by decide +kernel
theorem dX4_round_37 : decode cX4_round 37 = .ok (.if_icmp .ge 35, 3) := by decide +kernel
theorem dX4_round_40 : decode cX4_round 40 = .ok (.aload_n 0, 1) := by decide +kernel
theorem dX4_round_41 : decode cX4_round 41 = .ok (.getfield 52, 3) := by decide +kernel
theorem dX4_round_44 : decode cX4_round 44 = .ok (.iload_n 3, 1) := by decide +kernel
theorem dX4_round_45 : decode cX4_round 45 = .ok (.iaload, 1) := by decide +kernel
theorem dX4_round_46 : decode cX4_round 46 = .ok (.ifCond .ge 26, 3) := by decide +kernel
theorem dX4_round_49 : decode cX4_round 49 = .ok (.aload_n 0, 1) := by decide +kernel
theorem dX4_round_50 : decode cX4_round 50 = .ok (.getfield 52, 3) := by decide +kernel
theorem dX4_round_53 : decode cX4_round 53 = .ok (.iload_n 3, 1) := by decide +kernel
theorem dX4_round_54 : decode cX4_round 54 = .ok (.iload 4, 2) := by decide +kernel
theorem dX4_round_56 : decode cX4_round 56 = .ok (.iastore, 1) := by decide +kernel
theorem dX4_round_57 : decode cX4_round 57 = .ok (.aload_n 0, 1) := by decide +kernel
theorem dX4_round_58 : decode cX4_round 58 = .ok (.getfield 10, 3) := by decide +kernel
theorem dX4_round_61 : decode cX4_round 61 = .ok (.iload_n 3, 1) := by decide +kernel
theorem dX4_round_62 : decode cX4_round 62 = .ok (.invokevirtual 149, 3) := by decide +kernel
theorem dX4_round_65 : decode cX4_round 65 = .ok (.istore_n 3, 1) := by decide +kernel
theorem dX4_round_66 : decode cX4_round 66 = .ok (.iinc 4 1, 3) := by decide +kernel
theorem dX4_round_69 : decode cX4_round 69 = .ok (.goto (-36), 3) := by decide +kernel
theorem dX4_round_72 : decode cX4_round 72 = .ok (.iload_n 2, 1) := by decide +kernel
theorem dX4_round_73 : decode cX4_round 73 = .ok (.ifCond .ne 12, 3) := by decide +kernel
theorem dX4_round_76 : decode cX4_round 76 = .ok (.aload_n 0, 1) := by decide +kernel
theorem dX4_round_77 : decode cX4_round 77 = .ok (.getfield 52, 3) := by decide +kernel
theorem dX4_round_80 : decode cX4_round 80 = .ok (.iload_n 3, 1) := by decide +kernel
theorem dX4_round_81 : decode cX4_round 81 = .ok (.iaload, 1) := by decide +kernel
theorem dX4_round_82 : decode cX4_round 82 = .ok (.goto 12, 3) := by decide +kernel
theorem dX4_round_85 : decode cX4_round 85 = .ok (.iload 4, 2) := by decide +kernel
theorem dX4_round_87 : decode cX4_round 87 = .ok (.aload_n 0, 1) := by decide +kernel
theorem dX4_round_88 : decode cX4_round 88 = .ok (.getfield 52, 3) := by decide +kernel
theorem dX4_round_91 : decode cX4_round 91 = .ok (.iload_n 3, 1) := by decide +kernel
theorem dX4_round_92 : decode cX4_round 92 = .ok (.iaload, 1) := by decide +kernel
theorem dX4_round_93 : decode cX4_round 93 = .ok (.isub, 1) := by decide +kernel
theorem dX4_round_94 : decode cX4_round 94 = .ok (.ireturn, 1) := by decide +kernel
theorem dX4_days_0 : decode cX4_days 0 = .ok (.iload_n 1, 1) := by decide +kernel
theorem dX4_days_1 : decode cX4_days 1 = .ok (.ifCond .lt 8, 3) := by decide +kernel
theorem dX4_days_4 : decode cX4_days 4 = .ok (.iload_n 1, 1) := by decide +kernel
theorem dX4_days_5 : decode cX4_days 5 = .ok (.iconst 4, 1) := by decide +kernel
theorem dX4_days_6 : decode cX4_days 6 = .ok (.if_icmp .le 5, 3) := by decide +kernel
theorem dX4_days_9 : decode cX4_days 9 = .ok (.iconst (-1), 1) := by decide +kernel
theorem dX4_days_10 : decode cX4_days 10 = .ok (.ireturn, 1) := by decide +kernel
theorem dX4_days_11 : decode cX4_days 11 = .ok (.aload_n 0, 1) := by decide +kernel
theorem dX4_days_12 : decode cX4_days 12 = .ok (.getfield 27, 3) := by decide +kernel
theorem dX4_days_15 : decode cX4_days 15 = .ok (.aload_n 0, 1) := by decide +kernel
theorem dX4_days_16 : decode cX4_days 16 = .ok (.getfield 10, 3) := by decide +kernel
theorem dX4_days_19 : decode cX4_days 19 = .ok (.invokevirtual 162, 3) := by decide +kernel
theorem dX4_days_22 : decode cX4_days 22 = .ok (.lstore_n 2, 1) := by decide +kernel
theorem dX4_days_23 : decode cX4_days 23 = .ok (.iload_n 1, 1) := by decide +kernel
theorem dX4_days_24 : decode cX4_days 24 = .ok (.tableswitch 53 0 3 #[32, 37, 42, 47], 32) := by decide +kernel
theorem dX4_days_56 : decode cX4_days 56 = .ok (.lload_n 2, 1) := by decide +kernel
theorem dX4_days_57 : decode cX4_days 57 = .ok (.invokestatic 166, 3) := by decide +kernel
theorem dX4_days_60 : decode cX4_days 60 = .ok (.ireturn, 1) := by decide +kernel
theorem dX4_days_61 : decode cX4_days 61 = .ok (.lload_n 2, 1) := by decide +kernel
theorem dX4_days_62 : decode cX4_days 62 = .ok (.invokestatic 172, 3) := by decide +kernel
theorem dX4_days_65 : decode cX4_days 65 = .ok (.ireturn, 1) := by decide +kernel
theorem dX4_days_66 : decode cX4_days 66 = .ok (.lload_n 2, 1) := by decide +kernel
theorem dX4_days_67 : decode cX4_days 67 = .ok (.invokestatic 175, 3) := by decide +kernel
theorem dX4_days_70 : decode cX4_days 70 = .ok (.ireturn, 1) := by decide +kernel
theorem dX4_days_71 : decode cX4_days 71 = .ok (.aload_n 0, 1) := by decide +kernel
theorem dX4_days_72 : decode cX4_days 72 = .ok (.lload_n 2, 1) := by decide +kernel
theorem dX4_days_73 : decode cX4_days 73 = .ok (.invokevirtual 178, 3) := by decide +kernel
theorem dX4_days_76 : decode cX4_days 76 = .ok (.ireturn, 1) := by decide +kernel
theorem dX4_days_77 : decode cX4_days 77 = .ok (.aload_n 0, 1) := by decide +kernel
theorem dX4_days_78 : decode cX4_days 78 = .ok (.lload_n 2, 1) := by decide +kernel
theorem dX4_days_79 : decode cX4_days 79 = .ok (.invokevirtual 181, 3) := by decide +kernel
theorem dX4_days_82 : decode cX4_days 82 = .ok (.ireturn, 1) := by decide +kernel
theorem dX4_first_0 : decode cX4_first 0 = .ok (.aload_n 0, 1) := by decide +kernel
theorem dX4_first_1 : decode cX4_first 1 = .ok (.getfield 27, 3) := by decide +kernel
theorem dX4_first_4 : decode cX4_first 4 = .ok (.aload_n 0, 1) := by decide +kernel
theorem dX4_first_5 : decode cX4_first 5 = .ok (.getfield 10, 3) := by decide +kernel
theorem dX4_first_8 : decode cX4_first 8 = .ok (.aload_n 0, 1) := by decide +kernel
theorem dX4_first_9 : decode cX4_first 9 = .ok (.getfield 10, 3) := by decide +kernel
theorem dX4_first_12 : decode cX4_first 12 = .ok (.getfield 92, 3) := by decide +kernel
theorem dX4_first_15 : decode cX4_first 15 = .ok (.invokevirtual 184, 3) := by decide +kernel
theorem dX4_first_18 : decode cX4_first 18 = .ok (.iconst 0, 1) := by decide +kernel
theorem dX4_first_19 : decode cX4_first 19 = .ok (.istore_n 1, 1) := by decide +kernel
theorem dX4_first_20 : decode cX4_first 20 = .ok (.iload_n 1, 1) := by decide +kernel
theorem dX4_first_21 : decode cX4_first 21 = .ok (.aload_n 0, 1) := by decide +kernel
theorem dX4_first_22 : decode cX4_first 22 = .ok (.getfield 10, 3) := by decide +kernel
theorem dX4_first_25 : decode cX4_first 25 = .ok (.getfield 89, 3) := by decide +kernel
theorem dX4_first_28 : decode cX4_first 28 = .ok (.if_icmp .gt 39, 3) := by decide +kernel
theorem dX4_first_31 : decode cX4_first 31 = .ok (.aload_n 0, 1) := by decide +kernel
theorem dX4_first_32 : decode cX4_first 32 = .ok (.getfield 27, 3) := by decide +kernel
theorem dX4_first_35 : decode cX4_first 35 = .ok (.aload_n 0, 1) := by decide +kernel
theorem dX4_first_36 : decode cX4_first 36 = .ok (.getfield 10, 3) := by decide +kernel
theorem dX4_first_39 : decode cX4_first 39 = .ok (.iconst 1, 1) := by decide +kernel
theorem dX4_first_40 : decode cX4_first 40 = .ok (.iload_n 1, 1) := by decide +kernel
theorem dX4_first_41 : decode cX4_first 41 = .ok (.ishl, 1) := by decide +kernel
theorem dX4_first_42 : decode cX4_first 42 = .ok (.iconst 1, 1) := by decide +kernel
theorem dX4_first_43 : decode cX4_first 43 = .ok (.isub, 1) := by decide +kernel
theorem dX4_first_44 : decode cX4_first 44 = .ok (.aload_n 0, 1) := by decide +kernel
theorem dX4_first_45 : decode cX4_first 45 = .ok (.getfield 10, 3) := by decide +kernel
theorem dX4_first_48 : decode cX4_first 48 = .ok (.getfield 95, 3) := by decide +kernel
theorem dX4_first_51 : decode cX4_first 51 = .ok (.invokevirtual 188, 3) := by decide +kernel
theorem dX4_first_54 : decode cX4_first 54 = .ok (.lconst 0, 1) := by decide +kernel
theorem dX4_first_55 : decode cX4_first 55 = .ok (.lcmp, 1) := by decide +kernel
theorem dX4_first_56 : decode cX4_first 56 = .ok (.ifCond .ne 5, 3) := by decide +kernel
theorem dX4_first_59 : decode cX4_first 59 = .ok (.iload_n 1, 1) := by decide +kernel
theorem dX4_first_60 : decode cX4_first 60 = .ok (.ireturn, 1) := by decide +kernel
theorem dX4_first_61 : decode cX4_first 61 = .ok (.iinc 1 1, 3) := by decide +kernel
theorem dX4_first_64 : decode cX4_first 64 = .ok (.goto (-44), 3) := by decide +kernel
theorem dX4_first_67 : decode cX4_first 67 = .ok (.bipush (-4), 2) := by decide +kernel
theorem dX4_first_69 : decode cX4_first 69 = .ok (.ireturn, 1) := by decide +kernel
theorem dX4_less_0 : decode cX4_less 0 = .ok (.aload_n 0, 1) := by decide +kernel
theorem dX4_less_1 : decode cX4_less 1 = .ok (.getfield 27, 3) := by decide +kernel
theorem dX4_less_4 : decode cX4_less 4 = .ok (.aload_n 0, 1) := by decide +kernel
theorem dX4_less_5 : decode cX4_less 5 = .ok (.getfield 10, 3) := by decide +kernel
theorem dX4_less_8 : decode cX4_less 8 = .ok (.aload_n 0, 1) := by decide +kernel
theorem dX4_less_9 : decode cX4_less 9 = .ok (.getfield 10, 3) := by decide +kernel
theorem dX4_less_12 : decode cX4_less 12 = .ok (.getfield 92, 3) := by decide +kernel
theorem dX4_less_15 : decode cX4_less 15 = .ok (.invokevirtual 184, 3) := by decide +kernel
theorem dX4_less_18 : decode cX4_less 18 = .ok (.iconst 0, 1) := by decide +kernel
theorem dX4_less_19 : decode cX4_less 19 = .ok (.istore_n 1, 1) := by decide +kernel
theorem dX4_less_20 : decode cX4_less 20 = .ok (.iload_n 1, 1) := by decide +kernel
theorem dX4_less_21 : decode cX4_less 21 = .ok (.aload_n 0, 1) := by decide +kernel
theorem dX4_less_22 : decode cX4_less 22 = .ok (.getfield 10, 3) := by decide +kernel
theorem dX4_less_25 : decode cX4_less 25 = .ok (.getfield 89, 3) := by decide +kernel
theorem dX4_less_28 : decode cX4_less 28 = .ok (.if_icmp .ge 47, 3) := by decide +kernel
theorem dX4_less_31 : decode cX4_less 31 = .ok (.aload_n 0, 1) := by decide +kernel
theorem dX4_less_32 : decode cX4_less 32 = .ok (.getfield 27, 3) := by decide +kernel
theorem dX4_less_35 : decode cX4_less 35 = .ok (.aload_n 0, 1) := by decide +kernel
theorem dX4_less_36 : decode cX4_less 36 = .ok (.getfield 10, 3) := by decide +kernel
theorem dX4_less_39 : decode cX4_less 39 = .ok (.iconst 1, 1) := by decide +kernel
theorem dX4_less_40 : decode cX4_less 40 = .ok (.aload_n 0, 1) := by decide +kernel
theorem dX4_less_41 : decode cX4_less 41 = .ok (.getfield 10, 3) := by decide +kernel
theorem dX4_less_44 : decode cX4_less 44 = .ok (.getfield 89, 3) := by decide +kernel
theorem dX4_less_47 : decode cX4_less 47 = .ok (.iload_n 1, 1) := by decide +kernel
theorem dX4_less_48 : decode cX4_less 48 = .ok (.isub, 1) := by decide +kernel
theorem dX4_less_49 : decode cX4_less 49 = .ok (.ishl, 1) := by decide +kernel
theorem dX4_less_50 : decode cX4_less 50 = .ok (.iconst 1, 1) := by decide +kernel
theorem dX4_less_51 : decode cX4_less 51 = .ok (.isub, 1) := by decide +kernel
theorem dX4_less_52 : decode cX4_less 52 = .ok (.aload_n 0, 1) := by decide +kernel
theorem dX4_less_53 : decode cX4_less 53 = .ok (.getfield 10, 3) := by decide +kernel
theorem dX4_less_56 : decode cX4_less 56 = .ok (.getfield 95, 3) := by decide +kernel
theorem dX4_less_59 : decode cX4_less 59 = .ok (.invokevirtual 188, 3) := by decide +kernel
theorem dX4_less_62 : decode cX4_less 62 = .ok (.lconst 0, 1) := by decide +kernel
theorem dX4_less_63 : decode cX4_less 63 = .ok (.lcmp, 1) := by decide +kernel
theorem dX4_less_64 : decode cX4_less 64 = .ok (.ifCond .eq 5, 3) := by decide +kernel
theorem dX4_less_67 : decode cX4_less 67 = .ok (.iload_n 1, 1) := by decide +kernel
theorem dX4_less_68 : decode cX4_less 68 = .ok (.ireturn, 1) := by decide +kernel
theorem dX4_less_69 : decode cX4_less 69 = .ok (.iinc 1 1, 3) := by decide +kernel
theorem dX4_less_72 : decode cX4_less 72 = .ok (.goto (-52), 3) := by decide +kernel
theorem dX4_less_75 : decode cX4_less 75 = .ok (.aload_n 0, 1) := by decide +kernel
theorem dX4_less_76 : decode cX4_less 76 = .ok (.getfield 10, 3) := by decide +kernel
theorem dX4_less_79 : decode cX4_less 79 = .ok (.getfield 89, 3) := by decide +kernel
theorem dX4_less_82 : decode cX4_less 82 = .ok (.ireturn, 1) := by decide +kernel
theorem dX4_begins_0 : decode cX4_begins 0 = .ok (.aload_n 0, 1) := by decide +kernel
theorem dX4_begins_1 : decode cX4_begins 1 = .ok (.getfield 10, 3) := by decide +kernel
theorem dX4_begins_4 : decode cX4_begins 4 = .ok (.iload_n 1, 1) := by decide +kernel
theorem dX4_begins_5 : decode cX4_begins 5 = .ok (.invokevirtual 146, 3) := by decide +kernel
theorem dX4_begins_8 : decode cX4_begins 8 = .ok (.ifCond .eq 14, 3) := by decide +kernel
theorem dX4_begins_11 : decode cX4_begins 11 = .ok (.aload_n 0, 1) := by decide +kernel
theorem dX4_begins_12 : decode cX4_begins 12 = .ok (.getfield 10, 3) := by decide +kernel
theorem dX4_begins_15 : decode cX4_begins 15 = .ok (.iload_n 1, 1) := by decide +kernel
theorem dX4_begins_16 : decode cX4_begins 16 = .ok (.invokevirtual 192, 3) := by decide +kernel
theorem dX4_begins_19 : decode cX4_begins 19 = .ok (.goto 4, 3) := by decide +kernel
theorem dX4_begins_22 : decode cX4_begins 22 = .ok (.iconst (-1), 1) := by decide +kernel
theorem dX4_begins_23 : decode cX4_begins 23 = .ok (.ireturn, 1) := by decide +kernel
theorem dX4_pure_0 : decode cX4_pure 0 = .ok (.iload_n 1, 1) := by decide +kernel
theorem dX4_pure_1 : decode cX4_pure 1 = .ok (.invokestatic 153, 3) := by decide +kernel
theorem dX4_pure_4 : decode cX4_pure 4 = .ok (.ifCond .ne 5, 3) := by decide +kernel
theorem dX4_pure_7 : decode cX4_pure 7 = .ok (.iconst (-1), 1) := by decide +kernel
theorem dX4_pure_8 : decode cX4_pure 8 = .ok (.ireturn, 1) := by decide +kernel
theorem dX4_pure_9 : decode cX4_pure 9 = .ok (.aload_n 0, 1) := by decide +kernel
theorem dX4_pure_10 : decode cX4_pure 10 = .ok (.getfield 27, 3) := by decide +kernel
theorem dX4_pure_13 : decode cX4_pure 13 = .ok (.aload_n 0, 1) := by decide +kernel
theorem dX4_pure_14 : decode cX4_pure 14 = .ok (.getfield 10, 3) := by decide +kernel
theorem dX4_pure_17 : decode cX4_pure 17 = .ok (.invokevirtual 162, 3) := by decide +kernel
theorem dX4_pure_20 : decode cX4_pure 20 = .ok (.lstore_n 2, 1) := by decide +kernel
theorem dX4_pure_21 : decode cX4_pure 21 = .ok (.iconst 0, 1) := by decide +kernel
theorem dX4_pure_22 : decode cX4_pure 22 = .ok (.istore 4, 2) := by decide +kernel
theorem dX4_pure_24 : decode cX4_pure 24 = .ok (.iload 4, 2) := by decide +kernel
theorem dX4_pure_26 : decode cX4_pure 26 = .ok (.aload_n 0, 1) := by decide +kernel
theorem dX4_pure_27 : decode cX4_pure 27 = .ok (.getfield 10, 3) := by decide +kernel
theorem dX4_pure_30 : decode cX4_pure 30 = .ok (.invokevirtual 195, 3) := by decide +kernel
theorem dX4_pure_33 : decode cX4_pure 33 = .ok (.if_icmp .gt 43, 3) := by decide +kernel
theorem dX4_pure_36 : decode cX4_pure 36 = .ok (.iload 4, 2) := by decide +kernel
theorem dX4_pure_38 : decode cX4_pure 38 = .ok (.lload_n 2, 1) := by decide +kernel
theorem dX4_pure_39 : decode cX4_pure 39 = .ok (.invokestatic 198, 3) := by decide +kernel
theorem dX4_pure_42 : decode cX4_pure 42 = .ok (.ifCond .eq 28, 3) := by decide +kernel
theorem dX4_pure_45 : decode cX4_pure 45 = .ok (.aload_n 0, 1) := by decide +kernel
theorem dX4_pure_46 : decode cX4_pure 46 = .ok (.getfield 10, 3) := by decide +kernel
theorem dX4_pure_49 : decode cX4_pure 49 = .ok (.iload 4, 2) := by decide +kernel
theorem dX4_pure_51 : decode cX4_pure 51 = .ok (.invokevirtual 192, 3) := by decide +kernel
theorem dX4_pure_54 : decode cX4_pure 54 = .ok (.iload 4, 2) := by decide +kernel
theorem dX4_pure_56 : decode cX4_pure 56 = .ok (.if_icmp .eq 14, 3) := by decide +kernel
theorem dX4_pure_59 : decode cX4_pure 59 = .ok (.lload_n 2, 1) := by decide +kernel
theorem dX4_pure_60 : decode cX4_pure 60 = .ok (.lconst 1, 1) := by decide +kernel
theorem dX4_pure_61 : decode cX4_pure 61 = .ok (.iload 4, 2) := by decide +kernel
theorem dX4_pure_63 : decode cX4_pure 63 = .ok (.lshl, 1) := by decide +kernel
theorem dX4_pure_64 : decode cX4_pure 64 = .ok (.ldc2_w 202, 3) := by decide +kernel
theorem dX4_pure_67 : decode cX4_pure 67 = .ok (.lxor, 1) := by decide +kernel
theorem dX4_pure_68 : decode cX4_pure 68 = .ok (.land, 1) := by decide +kernel
theorem dX4_pure_69 : decode cX4_pure 69 = .ok (.lstore_n 2, 1) := by decide +kernel
theorem dX4_pure_70 : decode cX4_pure 70 = .ok (.iinc 4 1, 3) := by decide +kernel
theorem dX4_pure_73 : decode cX4_pure 73 = .ok (.goto (-49), 3) := by decide +kernel
theorem dX4_pure_76 : decode cX4_pure 76 = .ok (.iload_n 1, 1) := by decide +kernel
theorem dX4_pure_77 : decode cX4_pure 77 = .ok (.ifCond .ne 10, 3) := by decide +kernel
theorem dX4_pure_80 : decode cX4_pure 80 = .ok (.lload_n 2, 1) := by decide +kernel
theorem dX4_pure_81 : decode cX4_pure 81 = .ok (.invokestatic 166, 3) := by decide +kernel
theorem dX4_pure_84 : decode cX4_pure 84 = .ok (.goto 7, 3) := by decide +kernel
theorem dX4_pure_87 : decode cX4_pure 87 = .ok (.lload_n 2, 1) := by decide +kernel
theorem dX4_pure_88 : decode cX4_pure 88 = .ok (.invokestatic 172, 3) := by decide +kernel
theorem dX4_pure_91 : decode cX4_pure 91 = .ok (.ireturn, 1) := by decide +kernel
theorem dX4_wrote_0 : decode cX4_wrote 0 = .ok (.aload_n 0, 1) := by decide +kernel
theorem dX4_wrote_1 : decode cX4_wrote 1 = .ok (.getfield 10, 3) := by decide +kernel
theorem dX4_wrote_4 : decode cX4_wrote 4 = .ok (.iload_n 1, 1) := by decide +kernel
theorem dX4_wrote_5 : decode cX4_wrote 5 = .ok (.invokevirtual 146, 3) := by decide +kernel
theorem dX4_wrote_8 : decode cX4_wrote 8 = .ok (.ifCond .eq 26, 3) := by decide +kernel
theorem dX4_wrote_11 : decode cX4_wrote 11 = .ok (.aload_n 0, 1) := by decide +kernel
theorem dX4_wrote_12 : decode cX4_wrote 12 = .ok (.getfield 10, 3) := by decide +kernel
theorem dX4_wrote_15 : decode cX4_wrote 15 = .ok (.iload_n 2, 1) := by decide +kernel
theorem dX4_wrote_16 : decode cX4_wrote 16 = .ok (.invokevirtual 124, 3) := by decide +kernel
theorem dX4_wrote_19 : decode cX4_wrote 19 = .ok (.ifCond .eq 15, 3) := by decide +kernel
theorem dX4_wrote_22 : decode cX4_wrote 22 = .ok (.aload_n 0, 1) := by decide +kernel
theorem dX4_wrote_23 : decode cX4_wrote 23 = .ok (.getfield 10, 3) := by decide +kernel
theorem dX4_wrote_26 : decode cX4_wrote 26 = .ok (.iload_n 1, 1) := by decide +kernel
theorem dX4_wrote_27 : decode cX4_wrote 27 = .ok (.iload_n 2, 1) := by decide +kernel
theorem dX4_wrote_28 : decode cX4_wrote 28 = .ok (.invokevirtual 204, 3) := by decide +kernel
theorem dX4_wrote_31 : decode cX4_wrote 31 = .ok (.goto 4, 3) := by decide +kernel
theorem dX4_wrote_34 : decode cX4_wrote 34 = .ok (.iconst (-1), 1) := by decide +kernel
theorem dX4_wrote_35 : decode cX4_wrote 35 = .ok (.ireturn, 1) := by decide +kernel
theorem dX4_could_0 : decode cX4_could 0 = .ok (.aload_n 0, 1) := by decide +kernel
theorem dX4_could_1 : decode cX4_could 1 = .ok (.getfield 10, 3) := by decide +kernel
theorem dX4_could_4 : decode cX4_could 4 = .ok (.iload_n 1, 1) := by decide +kernel
theorem dX4_could_5 : decode cX4_could 5 = .ok (.invokevirtual 124, 3) := by decide +kernel
theorem dX4_could_8 : decode cX4_could 8 = .ok (.ifCond .ne 5, 3) := by decide +kernel
theorem dX4_could_11 : decode cX4_could 11 = .ok (.iconst (-1), 1) := by decide +kernel
theorem dX4_could_12 : decode cX4_could 12 = .ok (.ireturn, 1) := by decide +kernel
theorem dX4_could_13 : decode cX4_could 13 = .ok (.aload_n 0, 1) := by decide +kernel
theorem dX4_could_14 : decode cX4_could 14 = .ok (.getfield 27, 3) := by decide +kernel
theorem dX4_could_17 : decode cX4_could 17 = .ok (.aload_n 0, 1) := by decide +kernel
theorem dX4_could_18 : decode cX4_could 18 = .ok (.getfield 10, 3) := by decide +kernel
theorem dX4_could_21 : decode cX4_could 21 = .ok (.invokevirtual 162, 3) := by decide +kernel
theorem dX4_could_24 : decode cX4_could 24 = .ok (.lstore_n 2, 1) := by decide +kernel
theorem dX4_could_25 : decode cX4_could 25 = .ok (.iconst 0, 1) := by decide +kernel
theorem dX4_could_26 : decode cX4_could 26 = .ok (.istore 4, 2) := by decide +kernel
theorem dX4_could_28 : decode cX4_could 28 = .ok (.iconst 0, 1) := by decide +kernel
theorem dX4_could_29 : decode cX4_could 29 = .ok (.istore 5, 2) := by decide +kernel
theorem dX4_could_31 : decode cX4_could 31 = .ok (.iload 5, 2) := by decide +kernel
theorem dX4_could_33 : decode cX4_could 33 = .ok (.aload_n 0, 1) := by decide +kernel
theorem dX4_could_34 : decode cX4_could 34 = .ok (.getfield 10, 3) := by decide +kernel
theorem dX4_could_37 : decode cX4_could 37 = .ok (.invokevirtual 195, 3) := by decide +kernel
theorem dX4_could_40 : decode cX4_could 40 = .ok (.if_icmp .gt 33, 3) := by decide +kernel
theorem dX4_could_43 : decode cX4_could 43 = .ok (.iload 5, 2) := by decide +kernel
theorem dX4_could_45 : decode cX4_could 45 = .ok (.lload_n 2, 1) := by decide +kernel
theorem dX4_could_46 : decode cX4_could 46 = .ok (.invokestatic 198, 3) := by decide +kernel
theorem dX4_could_49 : decode cX4_could 49 = .ok (.ifCond .eq 18, 3) := by decide +kernel
theorem dX4_could_52 : decode cX4_could 52 = .ok (.iload 4, 2) := by decide +kernel
theorem dX4_could_54 : decode cX4_could 54 = .ok (.aload_n 0, 1) := by decide +kernel
theorem dX4_could_55 : decode cX4_could 55 = .ok (.getfield 10, 3) := by decide +kernel
theorem dX4_could_58 : decode cX4_could 58 = .ok (.iload 5, 2) := by decide +kernel
theorem dX4_could_60 : decode cX4_could 60 = .ok (.iload_n 1, 1) := by decide +kernel
theorem dX4_could_61 : decode cX4_could 61 = .ok (.invokevirtual 204, 3) := by decide +kernel
theorem dX4_could_64 : decode cX4_could 64 = .ok (.ior, 1) := by decide +kernel
theorem dX4_could_65 : decode cX4_could 65 = .ok (.istore 4, 2) := by decide +kernel
theorem dX4_could_67 : decode cX4_could 67 = .ok (.iinc 5 1, 3) := by decide +kernel
theorem dX4_could_70 : decode cX4_could 70 = .ok (.goto (-39), 3) := by decide +kernel
theorem dX4_could_73 : decode cX4_could 73 = .ok (.iload 4, 2) := by decide +kernel
theorem dX4_could_75 : decode cX4_could 75 = .ok (.ireturn, 1) := by decide +kernel
theorem dX4_fewest_0 : decode cX4_fewest 0 = .ok (.aload_n 0, 1) := by decide +kernel
theorem dX4_fewest_1 : decode cX4_fewest 1 = .ok (.getfield 10, 3) := by decide +kernel
theorem dX4_fewest_4 : decode cX4_fewest 4 = .ok (.iload_n 1, 1) := by decide +kernel
theorem dX4_fewest_5 : decode cX4_fewest 5 = .ok (.invokevirtual 124, 3) := by decide +kernel
theorem dX4_fewest_8 : decode cX4_fewest 8 = .ok (.ifCond .eq 10, 3) := by decide +kernel
theorem dX4_fewest_11 : decode cX4_fewest 11 = .ok (.iload_n 3, 1) := by decide +kernel
theorem dX4_fewest_12 : decode cX4_fewest 12 = .ok (.invokestatic 153, 3) := by decide +kernel
theorem dX4_fewest_15 : decode cX4_fewest 15 = .ok (.ifCond .ne 5, 3) := by decide +kernel
theorem dX4_fewest_18 : decode cX4_fewest 18 = .ok (.iconst (-1), 1) := by decide +kernel
theorem dX4_fewest_19 : decode cX4_fewest 19 = .ok (.ireturn, 1) := by decide +kernel
theorem dX4_fewest_20 : decode cX4_fewest 20 = .ok (.iload_n 2, 1) := by decide +kernel
theorem dX4_fewest_21 : decode cX4_fewest 21 = .ok (.ifCond .eq 11, 3) := by decide +kernel
theorem dX4_fewest_24 : decode cX4_fewest 24 = .ok (.getstatic 207, 3) := by decide +kernel
theorem dX4_fewest_27 : decode cX4_fewest 27 = .ok (.iload_n 1, 1) := by decide +kernel
theorem dX4_fewest_28 : decode cX4_fewest 28 = .ok (.laload, 1) := by decide +kernel
theorem dX4_fewest_29 : decode cX4_fewest 29 = .ok (.goto 12, 3) := by decide +kernel
theorem dX4_fewest_32 : decode cX4_fewest 32 = .ok (.getstatic 207, 3) := by decide +kernel
theorem dX4_fewest_35 : decode cX4_fewest 35 = .ok (.iload_n 1, 1) := by decide +kernel
theorem dX4_fewest_36 : decode cX4_fewest 36 = .ok (.laload, 1) := by decide +kernel
theorem dX4_fewest_37 : decode cX4_fewest 37 = .ok (.ldc2_w 202, 3) := by decide +kernel
theorem dX4_fewest_40 : decode cX4_fewest 40 = .ok (.lxor, 1) := by decide +kernel
theorem dX4_fewest_41 : decode cX4_fewest 41 = .ok (.lstore 4, 2) := by decide +kernel
theorem dX4_fewest_43 : decode cX4_fewest 43 = .ok (.bipush (-4), 2) := by decide +kernel
theorem dX4_fewest_45 : decode cX4_fewest 45 = .ok (.istore 6, 2) := by decide +kernel
theorem dX4_fewest_47 : decode cX4_fewest 47 = .ok (.iconst 0, 1) := by decide +kernel
theorem dX4_fewest_48 : decode cX4_fewest 48 = .ok (.istore 7, 2) := by decide +kernel
theorem dX4_fewest_50 : decode cX4_fewest 50 = .ok (.iload 7, 2) := by decide +kernel
theorem dX4_fewest_52 : decode cX4_fewest 52 = .ok (.iconst 1, 1) := by decide +kernel
theorem dX4_fewest_53 : decode cX4_fewest 53 = .ok (.aload_n 0, 1) := by decide +kernel
theorem dX4_fewest_54 : decode cX4_fewest 54 = .ok (.getfield 10, 3) := by decide +kernel
theorem dX4_fewest_57 : decode cX4_fewest 57 = .ok (.getfield 86, 3) := by decide +kernel
theorem dX4_fewest_60 : decode cX4_fewest 60 = .ok (.ishl, 1) := by decide +kernel
theorem dX4_fewest_61 : decode cX4_fewest 61 = .ok (.if_icmp .ge 90, 3) := by decide +kernel
theorem dX4_fewest_64 : decode cX4_fewest 64 = .ok (.iload 7, 2) := by decide +kernel
theorem dX4_fewest_66 : decode cX4_fewest 66 = .ok (.aload_n 0, 1) := by decide +kernel
theorem dX4_fewest_67 : decode cX4_fewest 67 = .ok (.getfield 10, 3) := by decide +kernel
theorem dX4_fewest_70 : decode cX4_fewest 70 = .ok (.getfield 92, 3) := by decide +kernel
theorem dX4_fewest_73 : decode cX4_fewest 73 = .ok (.iand, 1) := by decide +kernel
theorem dX4_fewest_74 : decode cX4_fewest 74 = .ok (.ifCond .ne 71, 3) := by decide +kernel
theorem dX4_fewest_77 : decode cX4_fewest 77 = .ok (.iload 7, 2) := by decide +kernel
theorem dX4_fewest_79 : decode cX4_fewest 79 = .ok (.iload 6, 2) := by decide +kernel
theorem dX4_fewest_81 : decode cX4_fewest 81 = .ok (.invokestatic 211, 3) := by decide +kernel
theorem dX4_fewest_84 : decode cX4_fewest 84 = .ok (.ifCond .eq 61, 3) := by decide +kernel
theorem dX4_fewest_87 : decode cX4_fewest 87 = .ok (.aload_n 0, 1) := by decide +kernel
theorem dX4_fewest_88 : decode cX4_fewest 88 = .ok (.getfield 27, 3) := by decide +kernel
theorem dX4_fewest_91 : decode cX4_fewest 91 = .ok (.aload_n 0, 1) := by decide +kernel
theorem dX4_fewest_92 : decode cX4_fewest 92 = .ok (.getfield 10, 3) := by decide +kernel
theorem dX4_fewest_95 : decode cX4_fewest 95 = .ok (.aload_n 0, 1) := by decide +kernel
theorem dX4_fewest_96 : decode cX4_fewest 96 = .ok (.getfield 10, 3) := by decide +kernel
theorem dX4_fewest_99 : decode cX4_fewest 99 = .ok (.getfield 92, 3) := by decide +kernel
theorem dX4_fewest_102 : decode cX4_fewest 102 = .ok (.iload 7, 2) := by decide +kernel
theorem dX4_fewest_104 : decode cX4_fewest 104 = .ok (.ior, 1) := by decide +kernel
theorem dX4_fewest_105 : decode cX4_fewest 105 = .ok (.invokevirtual 184, 3) := by decide +kernel
theorem dX4_fewest_108 : decode cX4_fewest 108 = .ok (.aload_n 0, 1) := by decide +kernel
theorem dX4_fewest_109 : decode cX4_fewest 109 = .ok (.getfield 27, 3) := by decide +kernel
theorem dX4_fewest_112 : decode cX4_fewest 112 = .ok (.aload_n 0, 1) := by decide +kernel
theorem dX4_fewest_113 : decode cX4_fewest 113 = .ok (.getfield 10, 3) := by decide +kernel
theorem dX4_fewest_116 : decode cX4_fewest 116 = .ok (.aload_n 0, 1) := by decide +kernel
theorem dX4_fewest_117 : decode cX4_fewest 117 = .ok (.getfield 10, 3) := by decide +kernel
theorem dX4_fewest_120 : decode cX4_fewest 120 = .ok (.invokevirtual 214, 3) := by decide +kernel
theorem dX4_fewest_123 : decode cX4_fewest 123 = .ok (.aload_n 0, 1) := by decide +kernel
theorem dX4_fewest_124 : decode cX4_fewest 124 = .ok (.getfield 10, 3) := by decide +kernel
theorem dX4_fewest_127 : decode cX4_fewest 127 = .ok (.getfield 95, 3) := by decide +kernel
theorem dX4_fewest_130 : decode cX4_fewest 130 = .ok (.invokevirtual 188, 3) := by decide +kernel
theorem dX4_fewest_133 : decode cX4_fewest 133 = .ok (.lload 4, 2) := by decide +kernel
theorem dX4_fewest_135 : decode cX4_fewest 135 = .ok (.land, 1) := by decide +kernel
theorem dX4_fewest_136 : decode cX4_fewest 136 = .ok (.lconst 0, 1) := by decide +kernel
theorem dX4_fewest_137 : decode cX4_fewest 137 = .ok (.lcmp, 1) := by decide +kernel
theorem dX4_fewest_138 : decode cX4_fewest 138 = .ok (.ifCond .eq 7, 3) := by decide +kernel
theorem dX4_fewest_141 : decode cX4_fewest 141 = .ok (.iload 7, 2) := by decide +kernel
theorem dX4_fewest_143 : decode cX4_fewest 143 = .ok (.istore 6, 2) := by decide +kernel
theorem dX4_fewest_145 : decode cX4_fewest 145 = .ok (.iinc 7 1, 3) := by decide +kernel
theorem dX4_fewest_148 : decode cX4_fewest 148 = .ok (.goto (-98), 3) := by decide +kernel
theorem dX4_fewest_151 : decode cX4_fewest 151 = .ok (.iload_n 3, 1) := by decide +kernel
theorem dX4_fewest_152 : decode cX4_fewest 152 = .ok (.ifCond .ne 11, 3) := by decide +kernel
theorem dX4_fewest_155 : decode cX4_fewest 155 = .ok (.iload 6, 2) := by decide +kernel
theorem dX4_fewest_157 : decode cX4_fewest 157 = .ok (.invokestatic 217, 3) := by decide +kernel
theorem dX4_fewest_160 : decode cX4_fewest 160 = .ok (.goto 5, 3) := by decide +kernel
theorem dX4_fewest_163 : decode cX4_fewest 163 = .ok (.iload 6, 2) := by decide +kernel
theorem dX4_fewest_165 : decode cX4_fewest 165 = .ok (.ireturn, 1) := by decide +kernel
theorem dX4_police_0 : decode cX4_police 0 = .ok (.aload_n 0, 1) := by decide +kernel
theorem dX4_police_1 : decode cX4_police 1 = .ok (.getfield 10, 3) := by decide +kernel
theorem dX4_police_4 : decode cX4_police 4 = .ok (.iload_n 1, 1) := by decide +kernel
theorem dX4_police_5 : decode cX4_police 5 = .ok (.invokevirtual 124, 3) := by decide +kernel
theorem dX4_police_8 : decode cX4_police 8 = .ok (.ifCond .eq 10, 3) := by decide +kernel
theorem dX4_police_11 : decode cX4_police 11 = .ok (.iload_n 2, 1) := by decide +kernel
theorem dX4_police_12 : decode cX4_police 12 = .ok (.invokestatic 153, 3) := by decide +kernel
theorem dX4_police_15 : decode cX4_police 15 = .ok (.ifCond .ne 5, 3) := by decide +kernel
theorem dX4_police_18 : decode cX4_police 18 = .ok (.iconst (-1), 1) := by decide +kernel
theorem dX4_police_19 : decode cX4_police 19 = .ok (.ireturn, 1) := by decide +kernel
theorem dX4_police_20 : decode cX4_police 20 = .ok (.aload_n 0, 1) := by decide +kernel
theorem dX4_police_21 : decode cX4_police 21 = .ok (.getfield 27, 3) := by decide +kernel
theorem dX4_police_24 : decode cX4_police 24 = .ok (.aload_n 0, 1) := by decide +kernel
theorem dX4_police_25 : decode cX4_police 25 = .ok (.getfield 10, 3) := by decide +kernel
theorem dX4_police_28 : decode cX4_police 28 = .ok (.aload_n 0, 1) := by decide +kernel
theorem dX4_police_29 : decode cX4_police 29 = .ok (.getfield 10, 3) := by decide +kernel
theorem dX4_police_32 : decode cX4_police 32 = .ok (.getfield 92, 3) := by decide +kernel
theorem dX4_police_35 : decode cX4_police 35 = .ok (.invokevirtual 184, 3) := by decide +kernel
theorem dX4_police_38 : decode cX4_police 38 = .ok (.aload_n 0, 1) := by decide +kernel
theorem dX4_police_39 : decode cX4_police 39 = .ok (.getfield 10, 3) := by decide +kernel
theorem dX4_police_42 : decode cX4_police 42 = .ok (.getfield 95, 3) := by decide +kernel
theorem dX4_police_45 : decode cX4_police 45 = .ok (.iconst 1, 1) := by decide +kernel
theorem dX4_police_46 : decode cX4_police 46 = .ok (.iload_n 1, 1) := by decide +kernel
theorem dX4_police_47 : decode cX4_police 47 = .ok (.ishl, 1) := by decide +kernel
theorem dX4_police_48 : decode cX4_police 48 = .ok (.ior, 1) := by decide +kernel
theorem dX4_police_49 : decode cX4_police 49 = .ok (.istore_n 3, 1) := by decide +kernel
theorem dX4_police_50 : decode cX4_police 50 = .ok (.bipush (-4), 2) := by decide +kernel
theorem dX4_police_52 : decode cX4_police 52 = .ok (.istore 4, 2) := by decide +kernel
theorem dX4_police_54 : decode cX4_police 54 = .ok (.iconst 0, 1) := by decide +kernel
theorem dX4_police_55 : decode cX4_police 55 = .ok (.istore 5, 2) := by decide +kernel
theorem dX4_police_57 : decode cX4_police 57 = .ok (.iload 5, 2) := by decide +kernel
theorem dX4_police_59 : decode cX4_police 59 = .ok (.aload_n 0, 1) := by decide +kernel
theorem dX4_police_60 : decode cX4_police 60 = .ok (.getfield 10, 3) := by decide +kernel
theorem dX4_police_63 : decode cX4_police 63 = .ok (.invokevirtual 195, 3) := by decide +kernel
theorem dX4_police_66 : decode cX4_police 66 = .ok (.if_icmp .gt 69, 3) := by decide +kernel
theorem dX4_police_69 : decode cX4_police 69 = .ok (.iload 5, 2) := by decide +kernel
theorem dX4_police_71 : decode cX4_police 71 = .ok (.iload_n 3, 1) := by decide +kernel
theorem dX4_police_72 : decode cX4_police 72 = .ok (.iand, 1) := by decide +kernel
theorem dX4_police_73 : decode cX4_police 73 = .ok (.ifCond .ne 56, 3) := by decide +kernel
theorem dX4_police_76 : decode cX4_police 76 = .ok (.iload 5, 2) := by decide +kernel
theorem dX4_police_78 : decode cX4_police 78 = .ok (.iload 4, 2) := by decide +kernel
theorem dX4_police_80 : decode cX4_police 80 = .ok (.invokestatic 211, 3) := by decide +kernel
theorem dX4_police_83 : decode cX4_police 83 = .ok (.ifCond .eq 46, 3) := by decide +kernel
theorem dX4_police_86 : decode cX4_police 86 = .ok (.aload_n 0, 1) := by decide +kernel
theorem dX4_police_87 : decode cX4_police 87 = .ok (.getfield 27, 3) := by decide +kernel
theorem dX4_police_90 : decode cX4_police 90 = .ok (.aload_n 0, 1) := by decide +kernel
theorem dX4_police_91 : decode cX4_police 91 = .ok (.getfield 10, 3) := by decide +kernel
theorem dX4_police_94 : decode cX4_police 94 = .ok (.aload_n 0, 1) := by decide +kernel
theorem dX4_police_95 : decode cX4_police 95 = .ok (.getfield 10, 3) := by decide +kernel
theorem dX4_police_98 : decode cX4_police 98 = .ok (.invokevirtual 214, 3) := by decide +kernel
theorem dX4_police_101 : decode cX4_police 101 = .ok (.aload_n 0, 1) := by decide +kernel
theorem dX4_police_102 : decode cX4_police 102 = .ok (.getfield 10, 3) := by decide +kernel
theorem dX4_police_105 : decode cX4_police 105 = .ok (.getfield 95, 3) := by decide +kernel
theorem dX4_police_108 : decode cX4_police 108 = .ok (.iload 5, 2) := by decide +kernel
theorem dX4_police_110 : decode cX4_police 110 = .ok (.ior, 1) := by decide +kernel
theorem dX4_police_111 : decode cX4_police 111 = .ok (.invokevirtual 188, 3) := by decide +kernel
theorem dX4_police_114 : decode cX4_police 114 = .ok (.getstatic 207, 3) := by decide +kernel
theorem dX4_police_117 : decode cX4_police 117 = .ok (.iload_n 1, 1) := by decide +kernel
theorem dX4_police_118 : decode cX4_police 118 = .ok (.laload, 1) := by decide +kernel
theorem dX4_police_119 : decode cX4_police 119 = .ok (.land, 1) := by decide +kernel
theorem dX4_police_120 : decode cX4_police 120 = .ok (.lconst 0, 1) := by decide +kernel
theorem dX4_police_121 : decode cX4_police 121 = .ok (.lcmp, 1) := by decide +kernel
theorem dX4_police_122 : decode cX4_police 122 = .ok (.ifCond .ne 7, 3) := by decide +kernel
theorem dX4_police_125 : decode cX4_police 125 = .ok (.iload 5, 2) := by decide +kernel
theorem dX4_police_127 : decode cX4_police 127 = .ok (.istore 4, 2) := by decide +kernel
theorem dX4_police_129 : decode cX4_police 129 = .ok (.iinc 5 1, 3) := by decide +kernel
theorem dX4_police_132 : decode cX4_police 132 = .ok (.goto (-75), 3) := by decide +kernel
theorem dX4_police_135 : decode cX4_police 135 = .ok (.iload_n 2, 1) := by decide +kernel
theorem dX4_police_136 : decode cX4_police 136 = .ok (.ifCond .ne 11, 3) := by decide +kernel
theorem dX4_police_139 : decode cX4_police 139 = .ok (.iload 4, 2) := by decide +kernel
theorem dX4_police_141 : decode cX4_police 141 = .ok (.invokestatic 217, 3) := by decide +kernel
theorem dX4_police_144 : decode cX4_police 144 = .ok (.goto 5, 3) := by decide +kernel
theorem dX4_police_147 : decode cX4_police 147 = .ok (.iload 4, 2) := by decide +kernel
theorem dX4_police_149 : decode cX4_police 149 = .ok (.ireturn, 1) := by decide +kernel
theorem dX4_comes_0 : decode cX4_comes 0 = .ok (.aload_n 0, 1) := by decide +kernel
theorem dX4_comes_1 : decode cX4_comes 1 = .ok (.getfield 27, 3) := by decide +kernel
theorem dX4_comes_4 : decode cX4_comes 4 = .ok (.aload_n 0, 1) := by decide +kernel
theorem dX4_comes_5 : decode cX4_comes 5 = .ok (.getfield 10, 3) := by decide +kernel
theorem dX4_comes_8 : decode cX4_comes 8 = .ok (.invokevirtual 162, 3) := by decide +kernel
theorem dX4_comes_11 : decode cX4_comes 11 = .ok (.lstore_n 1, 1) := by decide +kernel
theorem dX4_comes_12 : decode cX4_comes 12 = .ok (.bipush (-4), 2) := by decide +kernel
theorem dX4_comes_14 : decode cX4_comes 14 = .ok (.istore_n 3, 1) := by decide +kernel
theorem dX4_comes_15 : decode cX4_comes 15 = .ok (.bipush 7, 2) := by decide +kernel
theorem dX4_comes_17 : decode cX4_comes 17 = .ok (.istore 4, 2) := by decide +kernel
theorem dX4_comes_19 : decode cX4_comes 19 = .ok (.iconst 0, 1) := by decide +kernel
theorem dX4_comes_20 : decode cX4_comes 20 = .ok (.istore 5, 2) := by decide +kernel
theorem dX4_comes_22 : decode cX4_comes 22 = .ok (.iload 5, 2) := by decide +kernel
theorem dX4_comes_24 : decode cX4_comes 24 = .ok (.aload_n 0, 1) := by decide +kernel
theorem dX4_comes_25 : decode cX4_comes 25 = .ok (.getfield 10, 3) := by decide +kernel
theorem dX4_comes_28 : decode cX4_comes 28 = .ok (.invokevirtual 195, 3) := by decide +kernel
theorem dX4_comes_31 : decode cX4_comes 31 = .ok (.if_icmp .gt 47, 3) := by decide +kernel
theorem dX4_comes_34 : decode cX4_comes 34 = .ok (.iload 5, 2) := by decide +kernel
theorem dX4_comes_36 : decode cX4_comes 36 = .ok (.aload_n 0, 1) := by decide +kernel
theorem dX4_comes_37 : decode cX4_comes 37 = .ok (.getfield 10, 3) := by decide +kernel
theorem dX4_comes_40 : decode cX4_comes 40 = .ok (.getfield 98, 3) := by decide +kernel
theorem dX4_comes_43 : decode cX4_comes 43 = .ok (.ixor, 1) := by decide +kernel
theorem dX4_comes_44 : decode cX4_comes 44 = .ok (.invokestatic 220, 3) := by decide +kernel
theorem dX4_comes_47 : decode cX4_comes 47 = .ok (.istore 6, 2) := by decide +kernel
theorem dX4_comes_49 : decode cX4_comes 49 = .ok (.iload 5, 2) := by decide +kernel
theorem dX4_comes_51 : decode cX4_comes 51 = .ok (.lload_n 1, 1) := by decide +kernel
theorem dX4_comes_52 : decode cX4_comes 52 = .ok (.invokestatic 198, 3) := by decide +kernel
theorem dX4_comes_55 : decode cX4_comes 55 = .ok (.ifCond .eq 17, 3) := by decide +kernel
theorem dX4_comes_58 : decode cX4_comes 58 = .ok (.iload 6, 2) := by decide +kernel
theorem dX4_comes_60 : decode cX4_comes 60 = .ok (.iload 4, 2) := by decide +kernel
theorem dX4_comes_62 : decode cX4_comes 62 = .ok (.if_icmp .ge 10, 3) := by decide +kernel
theorem dX4_comes_65 : decode cX4_comes 65 = .ok (.iload 5, 2) := by decide +kernel
theorem dX4_comes_67 : decode cX4_comes 67 = .ok (.istore_n 3, 1) := by decide +kernel
theorem dX4_comes_68 : decode cX4_comes 68 = .ok (.iload 6, 2) := by decide +kernel
theorem dX4_comes_70 : decode cX4_comes 70 = .ok (.istore 4, 2) := by decide +kernel
theorem dX4_comes_72 : decode cX4_comes 72 = .ok (.iinc 5 1, 3) := by decide +kernel
theorem dX4_comes_75 : decode cX4_comes 75 = .ok (.goto (-53), 3) := by decide +kernel
theorem dX4_comes_78 : decode cX4_comes 78 = .ok (.iload_n 3, 1) := by decide +kernel
theorem dX4_comes_79 : decode cX4_comes 79 = .ok (.ireturn, 1) := by decide +kernel
theorem dX4_richest_0 : decode cX4_richest 0 = .ok (.iload_n 1, 1) := by decide +kernel
theorem dX4_richest_1 : decode cX4_richest 1 = .ok (.invokestatic 153, 3) := by decide +kernel
theorem dX4_richest_4 : decode cX4_richest 4 = .ok (.ifCond .ne 5, 3) := by decide +kernel
theorem dX4_richest_7 : decode cX4_richest 7 = .ok (.iconst (-1), 1) := by decide +kernel
theorem dX4_richest_8 : decode cX4_richest 8 = .ok (.ireturn, 1) := by decide +kernel
theorem dX4_richest_9 : decode cX4_richest 9 = .ok (.aload_n 0, 1) := by decide +kernel
theorem dX4_richest_10 : decode cX4_richest 10 = .ok (.getfield 27, 3) := by decide +kernel
theorem dX4_richest_13 : decode cX4_richest 13 = .ok (.aload_n 0, 1) := by decide +kernel
theorem dX4_richest_14 : decode cX4_richest 14 = .ok (.getfield 10, 3) := by decide +kernel
theorem dX4_richest_17 : decode cX4_richest 17 = .ok (.invokevirtual 162, 3) := by decide +kernel
theorem dX4_richest_20 : decode cX4_richest 20 = .ok (.lstore_n 2, 1) := by decide +kernel
theorem dX4_richest_21 : decode cX4_richest 21 = .ok (.bipush (-4), 2) := by decide +kernel
theorem dX4_richest_23 : decode cX4_richest 23 = .ok (.istore 4, 2) := by decide +kernel
theorem dX4_richest_25 : decode cX4_richest 25 = .ok (.iconst 0, 1) := by decide +kernel
theorem dX4_richest_26 : decode cX4_richest 26 = .ok (.istore 5, 2) := by decide +kernel
theorem dX4_richest_28 : decode cX4_richest 28 = .ok (.iconst 0, 1) := by decide +kernel
theorem dX4_richest_29 : decode cX4_richest 29 = .ok (.istore 6, 2) := by decide +kernel
theorem dX4_richest_31 : decode cX4_richest 31 = .ok (.iload 6, 2) := by decide +kernel
theorem dX4_richest_33 : decode cX4_richest 33 = .ok (.aload_n 0, 1) := by decide +kernel
theorem dX4_richest_34 : decode cX4_richest 34 = .ok (.getfield 10, 3) := by decide +kernel
theorem dX4_richest_37 : decode cX4_richest 37 = .ok (.invokevirtual 195, 3) := by decide +kernel
theorem dX4_richest_40 : decode cX4_richest 40 = .ok (.if_icmp .gt 51, 3) := by decide +kernel
theorem dX4_richest_43 : decode cX4_richest 43 = .ok (.iload 6, 2) := by decide +kernel
theorem dX4_richest_45 : decode cX4_richest 45 = .ok (.lload_n 2, 1) := by decide +kernel
theorem dX4_richest_46 : decode cX4_richest 46 = .ok (.invokestatic 198, 3) := by decide +kernel
theorem dX4_richest_49 : decode cX4_richest 49 = .ok (.ifCond .eq 36, 3) := by decide +kernel
theorem dX4_richest_52 : decode cX4_richest 52 = .ok (.aload_n 0, 1) := by decide +kernel
theorem dX4_richest_53 : decode cX4_richest 53 = .ok (.getfield 10, 3) := by decide +kernel
theorem dX4_richest_56 : decode cX4_richest 56 = .ok (.iload 6, 2) := by decide +kernel
theorem dX4_richest_58 : decode cX4_richest 58 = .ok (.invokevirtual 224, 3) := by decide +kernel
theorem dX4_richest_61 : decode cX4_richest 61 = .ok (.istore 7, 2) := by decide +kernel
theorem dX4_richest_63 : decode cX4_richest 63 = .ok (.iload 4, 2) := by decide +kernel
theorem dX4_richest_65 : decode cX4_richest 65 = .ok (.bipush (-4), 2) := by decide +kernel
theorem dX4_richest_67 : decode cX4_richest 67 = .ok (.if_icmp .eq 10, 3) := by decide +kernel
theorem dX4_richest_70 : decode cX4_richest 70 = .ok (.iload 7, 2) := by decide +kernel
theorem dX4_richest_72 : decode cX4_richest 72 = .ok (.iload 5, 2) := by decide +kernel
theorem dX4_richest_74 : decode cX4_richest 74 = .ok (.if_icmp .le 11, 3) := by decide +kernel
theorem dX4_richest_77 : decode cX4_richest 77 = .ok (.iload 6, 2) := by decide +kernel
theorem dX4_richest_79 : decode cX4_richest 79 = .ok (.istore 4, 2) := by decide +kernel
theorem dX4_richest_81 : decode cX4_richest 81 = .ok (.iload 7, 2) := by decide +kernel
theorem dX4_richest_83 : decode cX4_richest 83 = .ok (.istore 5, 2) := by decide +kernel
theorem dX4_richest_85 : decode cX4_richest 85 = .ok (.iinc 6 1, 3) := by decide +kernel
theorem dX4_richest_88 : decode cX4_richest 88 = .ok (.goto (-57), 3) := by decide +kernel
theorem dX4_richest_91 : decode cX4_richest 91 = .ok (.iload_n 1, 1) := by decide +kernel
theorem dX4_richest_92 : decode cX4_richest 92 = .ok (.ifCond .eq 10, 3) := by decide +kernel
theorem dX4_richest_95 : decode cX4_richest 95 = .ok (.iload 4, 2) := by decide +kernel
theorem dX4_richest_97 : decode cX4_richest 97 = .ok (.bipush (-4), 2) := by decide +kernel
theorem dX4_richest_99 : decode cX4_richest 99 = .ok (.if_icmp .ne 8, 3) := by decide +kernel
theorem dX4_richest_102 : decode cX4_richest 102 = .ok (.iload 4, 2) := by decide +kernel
theorem dX4_richest_104 : decode cX4_richest 104 = .ok (.goto 8, 3) := by decide +kernel
theorem dX4_richest_107 : decode cX4_richest 107 = .ok (.bipush 100, 2) := by decide +kernel
theorem dX4_richest_109 : decode cX4_richest 109 = .ok (.iload 5, 2) := by decide +kernel
theorem dX4_richest_111 : decode cX4_richest 111 = .ok (.iadd, 1) := by decide +kernel
theorem dX4_richest_112 : decode cX4_richest 112 = .ok (.ireturn, 1) := by decide +kernel
theorem dX4_odds_0 : decode cX4_odds 0 = .ok (.aload_n 0, 1) := by decide +kernel
theorem dX4_odds_1 : decode cX4_odds 1 = .ok (.getfield 10, 3) := by decide +kernel
theorem dX4_odds_4 : decode cX4_odds 4 = .ok (.iload_n 2, 1) := by decide +kernel
theorem dX4_odds_5 : decode cX4_odds 5 = .ok (.invokevirtual 124, 3) := by decide +kernel
theorem dX4_odds_8 : decode cX4_odds 8 = .ok (.ifCond .eq 14, 3) := by decide +kernel
theorem dX4_odds_11 : decode cX4_odds 11 = .ok (.aload_n 0, 1) := by decide +kernel
theorem dX4_odds_12 : decode cX4_odds 12 = .ok (.iload_n 1, 1) := by decide +kernel
theorem dX4_odds_13 : decode cX4_odds 13 = .ok (.iconst 0, 1) := by decide +kernel
theorem dX4_odds_14 : decode cX4_odds 14 = .ok (.iload_n 2, 1) := by decide +kernel
theorem dX4_odds_15 : decode cX4_odds 15 = .ok (.iload_n 3, 1) := by decide +kernel
theorem dX4_odds_16 : decode cX4_odds 16 = .ok (.invokevirtual 227, 3) := by decide +kernel
theorem dX4_odds_19 : decode cX4_odds 19 = .ok (.goto 6, 3) := by decide +kernel
theorem dX4_odds_22 : decode cX4_odds 22 = .ok (.ldc2_w 202, 3) := by decide +kernel
theorem dX4_odds_25 : decode cX4_odds 25 = .ok (.lreturn, 1) := by decide +kernel
theorem dX4_none_0 : decode cX4_none 0 = .ok (.aload_n 0, 1) := by decide +kernel
theorem dX4_none_1 : decode cX4_none 1 = .ok (.iload_n 1, 1) := by decide +kernel
theorem dX4_none_2 : decode cX4_none 2 = .ok (.iconst 1, 1) := by decide +kernel
theorem dX4_none_3 : decode cX4_none 3 = .ok (.iconst 0, 1) := by decide +kernel
theorem dX4_none_4 : decode cX4_none 4 = .ok (.iload_n 2, 1) := by decide +kernel
theorem dX4_none_5 : decode cX4_none 5 = .ok (.invokevirtual 227, 3) := by decide +kernel
theorem dX4_none_8 : decode cX4_none 8 = .ok (.lreturn, 1) := by decide +kernel
theorem dX4_mean_0 : decode cX4_mean 0 = .ok (.aload_n 0, 1) := by decide +kernel
theorem dX4_mean_1 : decode cX4_mean 1 = .ok (.iload_n 1, 1) := by decide +kernel
theorem dX4_mean_2 : decode cX4_mean 2 = .ok (.iconst 2, 1) := by decide +kernel
theorem dX4_mean_3 : decode cX4_mean 3 = .ok (.iconst 0, 1) := by decide +kernel
theorem dX4_mean_4 : decode cX4_mean 4 = .ok (.iload_n 2, 1) := by decide +kernel
theorem dX4_mean_5 : decode cX4_mean 5 = .ok (.invokevirtual 227, 3) := by decide +kernel
theorem dX4_mean_8 : decode cX4_mean 8 = .ok (.lreturn, 1) := by decide +kernel
theorem dX4_see_0 : decode cX4_see 0 = .ok (.aload_n 0, 1) := by decide +kernel
theorem dX4_see_1 : decode cX4_see 1 = .ok (.getfield 10, 3) := by decide +kernel
theorem dX4_see_4 : decode cX4_see 4 = .ok (.iload_n 1, 1) := by decide +kernel
theorem dX4_see_5 : decode cX4_see 5 = .ok (.invokevirtual 124, 3) := by decide +kernel
theorem dX4_see_8 : decode cX4_see 8 = .ok (.ifCond .ne 5, 3) := by decide +kernel
theorem dX4_see_11 : decode cX4_see 11 = .ok (.iconst (-1), 1) := by decide +kernel
theorem dX4_see_12 : decode cX4_see 12 = .ok (.ireturn, 1) := by decide +kernel
theorem dX4_see_13 : decode cX4_see 13 = .ok (.aload_n 0, 1) := by decide +kernel
theorem dX4_see_14 : decode cX4_see 14 = .ok (.getfield 80, 3) := by decide +kernel
theorem dX4_see_17 : decode cX4_see 17 = .ok (.bipush 8, 2) := by decide +kernel
theorem dX4_see_19 : decode cX4_see 19 = .ok (.if_icmp .lt 6, 3) := by decide +kernel
theorem dX4_see_22 : decode cX4_see 22 = .ok (.bipush (-3), 2) := by decide +kernel
theorem dX4_see_24 : decode cX4_see 24 = .ok (.ireturn, 1) := by decide +kernel
theorem dX4_see_25 : decode cX4_see 25 = .ok (.aload_n 0, 1) := by decide +kernel
theorem dX4_see_26 : decode cX4_see 26 = .ok (.getfield 38, 3) := by decide +kernel
theorem dX4_see_29 : decode cX4_see 29 = .ok (.aload_n 0, 1) := by decide +kernel
theorem dX4_see_30 : decode cX4_see 30 = .ok (.getfield 80, 3) := by decide +kernel
theorem dX4_see_33 : decode cX4_see 33 = .ok (.iload_n 1, 1) := by decide +kernel
theorem dX4_see_34 : decode cX4_see 34 = .ok (.iastore, 1) := by decide +kernel
theorem dX4_see_35 : decode cX4_see 35 = .ok (.aload_n 0, 1) := by decide +kernel
theorem dX4_see_36 : decode cX4_see 36 = .ok (.getfield 42, 3) := by decide +kernel
theorem dX4_see_39 : decode cX4_see 39 = .ok (.aload_n 0, 1) := by decide +kernel
theorem dX4_see_40 : decode cX4_see 40 = .ok (.getfield 80, 3) := by decide +kernel
theorem dX4_see_43 : decode cX4_see 43 = .ok (.iload_n 2, 1) := by decide +kernel
theorem dX4_see_44 : decode cX4_see 44 = .ok (.bastore, 1) := by decide +kernel
theorem dX4_see_45 : decode cX4_see 45 = .ok (.aload_n 0, 1) := by decide +kernel
theorem dX4_see_46 : decode cX4_see 46 = .ok (.dup, 1) := by decide +kernel
theorem dX4_see_47 : decode cX4_see 47 = .ok (.getfield 80, 3) := by decide +kernel
theorem dX4_see_50 : decode cX4_see 50 = .ok (.iconst 1, 1) := by decide +kernel
theorem dX4_see_51 : decode cX4_see 51 = .ok (.iadd, 1) := by decide +kernel
theorem dX4_see_52 : decode cX4_see 52 = .ok (.putfield 80, 3) := by decide +kernel
theorem dX4_see_55 : decode cX4_see 55 = .ok (.aload_n 0, 1) := by decide +kernel
theorem dX4_see_56 : decode cX4_see 56 = .ok (.getfield 80, 3) := by decide +kernel
theorem dX4_see_59 : decode cX4_see 59 = .ok (.ireturn, 1) := by decide +kernel
theorem dX4_forget_0 : decode cX4_forget 0 = .ok (.iload_n 1, 1) := by decide +kernel
theorem dX4_forget_1 : decode cX4_forget 1 = .ok (.ifCond .lt 11, 3) := by decide +kernel
theorem dX4_forget_4 : decode cX4_forget 4 = .ok (.iload_n 1, 1) := by decide +kernel
theorem dX4_forget_5 : decode cX4_forget 5 = .ok (.aload_n 0, 1) := by decide +kernel
theorem dX4_forget_6 : decode cX4_forget 6 = .ok (.getfield 80, 3) := by decide +kernel
theorem dX4_forget_9 : decode cX4_forget 9 = .ok (.if_icmp .le 5, 3) := by decide +kernel
theorem dX4_forget_12 : decode cX4_forget 12 = .ok (.iconst (-1), 1) := by decide +kernel
theorem dX4_forget_13 : decode cX4_forget 13 = .ok (.ireturn, 1) := by decide +kernel
theorem dX4_forget_14 : decode cX4_forget 14 = .ok (.aload_n 0, 1) := by decide +kernel
theorem dX4_forget_15 : decode cX4_forget 15 = .ok (.getfield 80, 3) := by decide +kernel
theorem dX4_forget_18 : decode cX4_forget 18 = .ok (.istore_n 2, 1) := by decide +kernel
theorem dX4_forget_19 : decode cX4_forget 19 = .ok (.aload_n 0, 1) := by decide +kernel
theorem dX4_forget_20 : decode cX4_forget 20 = .ok (.iload_n 1, 1) := by decide +kernel
theorem dX4_forget_21 : decode cX4_forget 21 = .ok (.putfield 80, 3) := by decide +kernel
theorem dX4_forget_24 : decode cX4_forget 24 = .ok (.iload_n 2, 1) := by decide +kernel
theorem dX4_forget_25 : decode cX4_forget 25 = .ok (.ireturn, 1) := by decide +kernel
theorem dX4_fits_0 : decode cX4_fits 0 = .ok (.iload_n 1, 1) := by decide +kernel
theorem dX4_fits_1 : decode cX4_fits 1 = .ok (.ifCond .lt 8, 3) := by decide +kernel
theorem dX4_fits_4 : decode cX4_fits 4 = .ok (.iload_n 1, 1) := by decide +kernel
theorem dX4_fits_5 : decode cX4_fits 5 = .ok (.iconst 3, 1) := by decide +kernel
theorem dX4_fits_6 : decode cX4_fits 6 = .ok (.if_icmp .le 5, 3) := by decide +kernel
theorem dX4_fits_9 : decode cX4_fits 9 = .ok (.iconst (-1), 1) := by decide +kernel
theorem dX4_fits_10 : decode cX4_fits 10 = .ok (.ireturn, 1) := by decide +kernel
theorem dX4_fits_11 : decode cX4_fits 11 = .ok (.aload_n 0, 1) := by decide +kernel
theorem dX4_fits_12 : decode cX4_fits 12 = .ok (.invokevirtual 231, 3) := by decide +kernel
theorem dX4_fits_15 : decode cX4_fits 15 = .ok (.lstore_n 2, 1) := by decide +kernel
theorem dX4_fits_16 : decode cX4_fits 16 = .ok (.iload_n 1, 1) := by decide +kernel
theorem dX4_fits_17 : decode cX4_fits 17 = .ok (.tableswitch 43 0 2 #[27, 32, 37], 27) := by decide +kernel
theorem dX4_fits_44 : decode cX4_fits 44 = .ok (.lload_n 2, 1) := by decide +kernel
theorem dX4_fits_45 : decode cX4_fits 45 = .ok (.invokestatic 166, 3) := by decide +kernel
theorem dX4_fits_48 : decode cX4_fits 48 = .ok (.ireturn, 1) := by decide +kernel
theorem dX4_fits_49 : decode cX4_fits 49 = .ok (.lload_n 2, 1) := by decide +kernel
theorem dX4_fits_50 : decode cX4_fits 50 = .ok (.invokestatic 172, 3) := by decide +kernel
theorem dX4_fits_53 : decode cX4_fits 53 = .ok (.ireturn, 1) := by decide +kernel
theorem dX4_fits_54 : decode cX4_fits 54 = .ok (.aload_n 0, 1) := by decide +kernel
theorem dX4_fits_55 : decode cX4_fits 55 = .ok (.lload_n 2, 1) := by decide +kernel
theorem dX4_fits_56 : decode cX4_fits 56 = .ok (.invokevirtual 178, 3) := by decide +kernel
theorem dX4_fits_59 : decode cX4_fits 59 = .ok (.ireturn, 1) := by decide +kernel
theorem dX4_fits_60 : decode cX4_fits 60 = .ok (.aload_n 0, 1) := by decide +kernel
theorem dX4_fits_61 : decode cX4_fits 61 = .ok (.lload_n 2, 1) := by decide +kernel
theorem dX4_fits_62 : decode cX4_fits 62 = .ok (.invokevirtual 181, 3) := by decide +kernel
theorem dX4_fits_65 : decode cX4_fits 65 = .ok (.ireturn, 1) := by decide +kernel
theorem dX4_ask_0 : decode cX4_ask 0 = .ok (.iload_n 1, 1) := by decide +kernel
theorem dX4_ask_1 : decode cX4_ask 1 = .ok (.invokestatic 153, 3) := by decide +kernel
theorem dX4_ask_4 : decode cX4_ask 4 = .ok (.ifCond .ne 5, 3) := by decide +kernel
theorem dX4_ask_7 : decode cX4_ask 7 = .ok (.iconst (-1), 1) := by decide +kernel
theorem dX4_ask_8 : decode cX4_ask 8 = .ok (.ireturn, 1) := by decide +kernel
theorem dX4_ask_9 : decode cX4_ask 9 = .ok (.aload_n 0, 1) := by decide +kernel
theorem dX4_ask_10 : decode cX4_ask 10 = .ok (.invokevirtual 231, 3) := by decide +kernel
theorem dX4_ask_13 : decode cX4_ask 13 = .ok (.lstore_n 2, 1) := by decide +kernel
theorem dX4_ask_14 : decode cX4_ask 14 = .ok (.bipush (-4), 2) := by decide +kernel
theorem dX4_ask_16 : decode cX4_ask 16 = .ok (.istore 4, 2) := by decide +kernel
theorem dX4_ask_18 : decode cX4_ask 18 = .ok (.lload_n 2, 1) := by decide +kernel
theorem dX4_ask_19 : decode cX4_ask 19 = .ok (.invokestatic 166, 3) := by decide +kernel
theorem dX4_ask_22 : decode cX4_ask 22 = .ok (.istore 5, 2) := by decide +kernel
theorem dX4_ask_24 : decode cX4_ask 24 = .ok (.iconst 0, 1) := by decide +kernel
theorem dX4_ask_25 : decode cX4_ask 25 = .ok (.istore 6, 2) := by decide +kernel
theorem dX4_ask_27 : decode cX4_ask 27 = .ok (.iload 6, 2) := by decide +kernel
theorem dX4_ask_29 : decode cX4_ask 29 = .ok (.aload_n 0, 1) := by decide +kernel
theorem dX4_ask_30 : decode cX4_ask 30 = .ok (.getfield 10, 3) := by decide +kernel
theorem dX4_ask_33 : decode cX4_ask 33 = .ok (.getfield 83, 3) := by decide +kernel
theorem dX4_ask_36 : decode cX4_ask 36 = .ok (.if_icmp .ge 55, 3) := by decide +kernel
theorem dX4_ask_39 : decode cX4_ask 39 = .ok (.lload_n 2, 1) := by decide +kernel
theorem dX4_ask_40 : decode cX4_ask 40 = .ok (.getstatic 207, 3) := by decide +kernel
theorem dX4_ask_43 : decode cX4_ask 43 = .ok (.iload 6, 2) := by decide +kernel
theorem dX4_ask_45 : decode cX4_ask 45 = .ok (.laload, 1) := by decide +kernel
theorem dX4_ask_46 : decode cX4_ask 46 = .ok (.land, 1) := by decide +kernel
theorem dX4_ask_47 : decode cX4_ask 47 = .ok (.invokestatic 166, 3) := by decide +kernel
theorem dX4_ask_50 : decode cX4_ask 50 = .ok (.lload_n 2, 1) := by decide +kernel
theorem dX4_ask_51 : decode cX4_ask 51 = .ok (.getstatic 207, 3) := by decide +kernel
theorem dX4_ask_54 : decode cX4_ask 54 = .ok (.iload 6, 2) := by decide +kernel
theorem dX4_ask_56 : decode cX4_ask 56 = .ok (.laload, 1) := by decide +kernel
theorem dX4_ask_57 : decode cX4_ask 57 = .ok (.ldc2_w 202, 3) := by decide +kernel
theorem dX4_ask_60 : decode cX4_ask 60 = .ok (.lxor, 1) := by decide +kernel
theorem dX4_ask_61 : decode cX4_ask 61 = .ok (.land, 1) := by decide +kernel
theorem dX4_ask_62 : decode cX4_ask 62 = .ok (.invokestatic 166, 3) := by decide +kernel
theorem dX4_ask_65 : decode cX4_ask 65 = .ok (.invokestatic 235, 3) := by decide +kernel
theorem dX4_ask_68 : decode cX4_ask 68 = .ok (.istore 7, 2) := by decide +kernel
theorem dX4_ask_70 : decode cX4_ask 70 = .ok (.iload 7, 2) := by decide +kernel
theorem dX4_ask_72 : decode cX4_ask 72 = .ok (.iload 5, 2) := by decide +kernel
theorem dX4_ask_74 : decode cX4_ask 74 = .ok (.if_icmp .ge 11, 3) := by decide +kernel
theorem dX4_ask_77 : decode cX4_ask 77 = .ok (.iload 6, 2) := by decide +kernel
theorem dX4_ask_79 : decode cX4_ask 79 = .ok (.istore 4, 2) := by decide +kernel
theorem dX4_ask_81 : decode cX4_ask 81 = .ok (.iload 7, 2) := by decide +kernel
theorem dX4_ask_83 : decode cX4_ask 83 = .ok (.istore 5, 2) := by decide +kernel
theorem dX4_ask_85 : decode cX4_ask 85 = .ok (.iinc 6 1, 3) := by decide +kernel
theorem dX4_ask_88 : decode cX4_ask 88 = .ok (.goto (-61), 3) := by decide +kernel
theorem dX4_ask_91 : decode cX4_ask 91 = .ok (.iload_n 1, 1) := by decide +kernel
theorem dX4_ask_92 : decode cX4_ask 92 = .ok (.ifCond .eq 10, 3) := by decide +kernel
theorem dX4_ask_95 : decode cX4_ask 95 = .ok (.iload 4, 2) := by decide +kernel
theorem dX4_ask_97 : decode cX4_ask 97 = .ok (.bipush (-4), 2) := by decide +kernel
theorem dX4_ask_99 : decode cX4_ask 99 = .ok (.if_icmp .ne 8, 3) := by decide +kernel
theorem dX4_ask_102 : decode cX4_ask 102 = .ok (.iload 4, 2) := by decide +kernel
theorem dX4_ask_104 : decode cX4_ask 104 = .ok (.goto 5, 3) := by decide +kernel
theorem dX4_ask_107 : decode cX4_ask 107 = .ok (.iload 5, 2) := by decide +kernel
theorem dX4_ask_109 : decode cX4_ask 109 = .ok (.ireturn, 1) := by decide +kernel
theorem dX4_drift_0 : decode cX4_drift 0 = .ok (.iload_n 2, 1) := by decide +kernel
theorem dX4_drift_1 : decode cX4_drift 1 = .ok (.iconst 1, 1) := by decide +kernel
theorem dX4_drift_2 : decode cX4_drift 2 = .ok (.if_icmp .lt 27, 3) := by decide +kernel
theorem dX4_drift_5 : decode cX4_drift 5 = .ok (.iload_n 2, 1) := by decide +kernel
theorem dX4_drift_6 : decode cX4_drift 6 = .ok (.bipush 60, 2) := by decide +kernel
theorem dX4_drift_8 : decode cX4_drift 8 = .ok (.if_icmp .gt 21, 3) := by decide +kernel
theorem dX4_drift_11 : decode cX4_drift 11 = .ok (.iload_n 3, 1) := by decide +kernel
theorem dX4_drift_12 : decode cX4_drift 12 = .ok (.invokestatic 153, 3) := by decide +kernel
theorem dX4_drift_15 : decode cX4_drift 15 = .ok (.ifCond .eq 14, 3) := by decide +kernel
theorem dX4_drift_18 : decode cX4_drift 18 = .ok (.aload_n 0, 1) := by decide +kernel
theorem dX4_drift_19 : decode cX4_drift 19 = .ok (.getfield 10, 3) := by decide +kernel
theorem dX4_drift_22 : decode cX4_drift 22 = .ok (.getfield 83, 3) := by decide +kernel
theorem dX4_drift_25 : decode cX4_drift 25 = .ok (.iconst 1, 1) := by decide +kernel
theorem dX4_drift_26 : decode cX4_drift 26 = .ok (.if_icmp .ge 5, 3) := by decide +kernel
theorem dX4_drift_29 : decode cX4_drift 29 = .ok (.iconst (-1), 1) := by decide +kernel
theorem dX4_drift_30 : decode cX4_drift 30 = .ok (.ireturn, 1) := by decide +kernel
theorem dX4_drift_31 : decode cX4_drift 31 = .ok (.iload_n 1, 1) := by decide +kernel
theorem dX4_drift_32 : decode cX4_drift 32 = .ok (.istore 4, 2) := by decide +kernel
theorem dX4_drift_34 : decode cX4_drift 34 = .ok (.aload_n 0, 1) := by decide +kernel
theorem dX4_drift_35 : decode cX4_drift 35 = .ok (.getfield 10, 3) := by decide +kernel
theorem dX4_drift_38 : decode cX4_drift 38 = .ok (.getfield 98, 3) := by decide +kernel
theorem dX4_drift_41 : decode cX4_drift 41 = .ok (.istore 5, 2) := by decide +kernel
theorem dX4_drift_43 : decode cX4_drift 43 = .ok (.iconst 0, 1) := by decide +kernel
theorem dX4_drift_44 : decode cX4_drift 44 = .ok (.istore 6, 2) := by decide +kernel
theorem dX4_drift_46 : decode cX4_drift 46 = .ok (.iconst 0, 1) := by decide +kernel
theorem dX4_drift_47 : decode cX4_drift 47 = .ok (.istore 7, 2) := by decide +kernel
theorem dX4_drift_49 : decode cX4_drift 49 = .ok (.iload 7, 2) := by decide +kernel
theorem dX4_drift_51 : decode cX4_drift 51 = .ok (.iload_n 2, 1) := by decide +kernel
theorem dX4_drift_52 : decode cX4_drift 52 = .ok (.if_icmp .ge 72, 3) := by decide +kernel
theorem dX4_drift_55 : decode cX4_drift 55 = .ok (.iload 4, 2) := by decide +kernel
theorem dX4_drift_57 : decode cX4_drift 57 = .ok (.ldc 240, 2) := by decide +kernel
theorem dX4_drift_59 : decode cX4_drift 59 = .ok (.imul, 1) := by decide +kernel
theorem dX4_drift_60 : decode cX4_drift 60 = .ok (.sipush 12345, 3) := by decide +kernel
theorem dX4_drift_63 : decode cX4_drift 63 = .ok (.iadd, 1) := by decide +kernel
theorem dX4_drift_64 : decode cX4_drift 64 = .ok (.istore 4, 2) := by decide +kernel
theorem dX4_drift_66 : decode cX4_drift 66 = .ok (.iload 5, 2) := by decide +kernel
theorem dX4_drift_68 : decode cX4_drift 68 = .ok (.iconst 1, 1) := by decide +kernel
theorem dX4_drift_69 : decode cX4_drift 69 = .ok (.iload 4, 2) := by decide +kernel
theorem dX4_drift_71 : decode cX4_drift 71 = .ok (.bipush 16, 2) := by decide +kernel
theorem dX4_drift_73 : decode cX4_drift 73 = .ok (.iushr, 1) := by decide +kernel
theorem dX4_drift_74 : decode cX4_drift 74 = .ok (.sipush 32767, 3) := by decide +kernel
theorem dX4_drift_77 : decode cX4_drift 77 = .ok (.iand, 1) := by decide +kernel
theorem dX4_drift_78 : decode cX4_drift 78 = .ok (.aload_n 0, 1) := by decide +kernel
theorem dX4_drift_79 : decode cX4_drift 79 = .ok (.getfield 10, 3) := by decide +kernel
theorem dX4_drift_82 : decode cX4_drift 82 = .ok (.getfield 83, 3) := by decide +kernel
theorem dX4_drift_85 : decode cX4_drift 85 = .ok (.irem, 1) := by decide +kernel
theorem dX4_drift_86 : decode cX4_drift 86 = .ok (.ishl, 1) := by decide +kernel
theorem dX4_drift_87 : decode cX4_drift 87 = .ok (.ixor, 1) := by decide +kernel
theorem dX4_drift_88 : decode cX4_drift 88 = .ok (.istore 5, 2) := by decide +kernel
theorem dX4_drift_90 : decode cX4_drift 90 = .ok (.aload_n 0, 1) := by decide +kernel
theorem dX4_drift_91 : decode cX4_drift 91 = .ok (.getfield 10, 3) := by decide +kernel
theorem dX4_drift_94 : decode cX4_drift 94 = .ok (.iload 5, 2) := by decide +kernel
theorem dX4_drift_96 : decode cX4_drift 96 = .ok (.invokevirtual 149, 3) := by decide +kernel
theorem dX4_drift_99 : decode cX4_drift 99 = .ok (.istore 5, 2) := by decide +kernel
theorem dX4_drift_101 : decode cX4_drift 101 = .ok (.aload_n 0, 1) := by decide +kernel
theorem dX4_drift_102 : decode cX4_drift 102 = .ok (.getfield 10, 3) := by decide +kernel
theorem dX4_drift_105 : decode cX4_drift 105 = .ok (.iload 5, 2) := by decide +kernel
theorem dX4_drift_107 : decode cX4_drift 107 = .ok (.invokevirtual 149, 3) := by decide +kernel
theorem dX4_drift_110 : decode cX4_drift 110 = .ok (.iload 5, 2) := by decide +kernel
theorem dX4_drift_112 : decode cX4_drift 112 = .ok (.if_icmp .ne 6, 3) := by decide +kernel
theorem dX4_drift_115 : decode cX4_drift 115 = .ok (.iinc 6 1, 3) := by decide +kernel
theorem dX4_drift_118 : decode cX4_drift 118 = .ok (.iinc 7 1, 3) := by decide +kernel
theorem dX4_drift_121 : decode cX4_drift 121 = .ok (.goto (-72), 3) := by decide +kernel
theorem dX4_drift_124 : decode cX4_drift 124 = .ok (.iload_n 3, 1) := by decide +kernel
theorem dX4_drift_125 : decode cX4_drift 125 = .ok (.ifCond .ne 8, 3) := by decide +kernel
theorem dX4_drift_128 : decode cX4_drift 128 = .ok (.iload 5, 2) := by decide +kernel
theorem dX4_drift_130 : decode cX4_drift 130 = .ok (.goto 5, 3) := by decide +kernel
theorem dX4_drift_133 : decode cX4_drift 133 = .ok (.iload 6, 2) := by decide +kernel
theorem dX4_drift_135 : decode cX4_drift 135 = .ok (.ireturn, 1) := by decide +kernel
theorem dX4_keep_0 : decode cX4_keep 0 = .ok (.iload_n 1, 1) := by decide +kernel
theorem dX4_keep_1 : decode cX4_keep 1 = .ok (.ifCond .lt 8, 3) := by decide +kernel
theorem dX4_keep_4 : decode cX4_keep 4 = .ok (.iload_n 1, 1) := by decide +kernel
theorem dX4_keep_5 : decode cX4_keep 5 = .ok (.iconst 2, 1) := by decide +kernel
theorem dX4_keep_6 : decode cX4_keep 6 = .ok (.if_icmp .lt 5, 3) := by decide +kernel
theorem dX4_keep_9 : decode cX4_keep 9 = .ok (.iconst (-1), 1) := by decide +kernel
theorem dX4_keep_10 : decode cX4_keep 10 = .ok (.ireturn, 1) := by decide +kernel
theorem dX4_keep_11 : decode cX4_keep 11 = .ok (.aload_n 0, 1) := by decide +kernel
theorem dX4_keep_12 : decode cX4_keep 12 = .ok (.getfield 20, 3) := by decide +kernel
theorem dX4_keep_15 : decode cX4_keep 15 = .ok (.iload_n 1, 1) := by decide +kernel
theorem dX4_keep_16 : decode cX4_keep 16 = .ok (.baload, 1) := by decide +kernel
theorem dX4_keep_17 : decode cX4_keep 17 = .ok (.ifCond .eq 7, 3) := by decide +kernel
theorem dX4_keep_20 : decode cX4_keep 20 = .ok (.iconst 1, 1) := by decide +kernel
theorem dX4_keep_21 : decode cX4_keep 21 = .ok (.goto 4, 3) := by decide +kernel
theorem dX4_keep_24 : decode cX4_keep 24 = .ok (.iconst 0, 1) := by decide +kernel
theorem dX4_keep_25 : decode cX4_keep 25 = .ok (.istore_n 2, 1) := by decide +kernel
theorem dX4_keep_26 : decode cX4_keep 26 = .ok (.aload_n 0, 1) := by decide +kernel
theorem dX4_keep_27 : decode cX4_keep 27 = .ok (.getfield 16, 3) := by decide +kernel
theorem dX4_keep_30 : decode cX4_keep 30 = .ok (.iload_n 1, 1) := by decide +kernel
theorem dX4_keep_31 : decode cX4_keep 31 = .ok (.aaload, 1) := by decide +kernel
theorem dX4_keep_32 : decode cX4_keep 32 = .ok (.aload_n 0, 1) := by decide +kernel
theorem dX4_keep_33 : decode cX4_keep 33 = .ok (.getfield 10, 3) := by decide +kernel
theorem dX4_keep_36 : decode cX4_keep 36 = .ok (.invokevirtual 76, 3) := by decide +kernel
theorem dX4_keep_39 : decode cX4_keep 39 = .ok (.aload_n 0, 1) := by decide +kernel
theorem dX4_keep_40 : decode cX4_keep 40 = .ok (.getfield 20, 3) := by decide +kernel
theorem dX4_keep_43 : decode cX4_keep 43 = .ok (.iload_n 1, 1) := by decide +kernel
theorem dX4_keep_44 : decode cX4_keep 44 = .ok (.iconst 1, 1) := by decide +kernel
theorem dX4_keep_45 : decode cX4_keep 45 = .ok (.bastore, 1) := by decide +kernel
theorem dX4_keep_46 : decode cX4_keep 46 = .ok (.iload_n 2, 1) := by decide +kernel
theorem dX4_keep_47 : decode cX4_keep 47 = .ok (.ireturn, 1) := by decide +kernel
theorem dX4_back_0 : decode cX4_back 0 = .ok (.iload_n 1, 1) := by decide +kernel
theorem dX4_back_1 : decode cX4_back 1 = .ok (.ifCond .lt 8, 3) := by decide +kernel
theorem dX4_back_4 : decode cX4_back 4 = .ok (.iload_n 1, 1) := by decide +kernel
theorem dX4_back_5 : decode cX4_back 5 = .ok (.iconst 2, 1) := by decide +kernel
theorem dX4_back_6 : decode cX4_back 6 = .ok (.if_icmp .lt 5, 3) := by decide +kernel
theorem dX4_back_9 : decode cX4_back 9 = .ok (.iconst (-1), 1) := by decide +kernel
theorem dX4_back_10 : decode cX4_back 10 = .ok (.ireturn, 1) := by decide +kernel
theorem dX4_back_11 : decode cX4_back 11 = .ok (.aload_n 0, 1) := by decide +kernel
theorem dX4_back_12 : decode cX4_back 12 = .ok (.getfield 20, 3) := by decide +kernel
theorem dX4_back_15 : decode cX4_back 15 = .ok (.iload_n 1, 1) := by decide +kernel
theorem dX4_back_16 : decode cX4_back 16 = .ok (.baload, 1) := by decide +kernel
theorem dX4_back_17 : decode cX4_back 17 = .ok (.ifCond .ne 6, 3) := by decide +kernel
theorem dX4_back_20 : decode cX4_back 20 = .ok (.bipush (-2), 2) := by decide +kernel
theorem dX4_back_22 : decode cX4_back 22 = .ok (.ireturn, 1) := by decide +kernel
theorem dX4_back_23 : decode cX4_back 23 = .ok (.aload_n 0, 1) := by decide +kernel
theorem dX4_back_24 : decode cX4_back 24 = .ok (.getfield 10, 3) := by decide +kernel
theorem dX4_back_27 : decode cX4_back 27 = .ok (.aload_n 0, 1) := by decide +kernel
theorem dX4_back_28 : decode cX4_back 28 = .ok (.getfield 16, 3) := by decide +kernel
theorem dX4_back_31 : decode cX4_back 31 = .ok (.iload_n 1, 1) := by decide +kernel
theorem dX4_back_32 : decode cX4_back 32 = .ok (.aaload, 1) := by decide +kernel
theorem dX4_back_33 : decode cX4_back 33 = .ok (.invokevirtual 76, 3) := by decide +kernel
theorem dX4_back_36 : decode cX4_back 36 = .ok (.aload_n 0, 1) := by decide +kernel
theorem dX4_back_37 : decode cX4_back 37 = .ok (.getfield 10, 3) := by decide +kernel
theorem dX4_back_40 : decode cX4_back 40 = .ok (.getfield 98, 3) := by decide +kernel
theorem dX4_back_43 : decode cX4_back 43 = .ok (.ireturn, 1) := by decide +kernel
theorem dX4_sheet_0 : decode cX4_sheet 0 = .ok (.iload_n 1, 1) := by decide +kernel
theorem dX4_sheet_1 : decode cX4_sheet 1 = .ok (.invokestatic 241, 3) := by decide +kernel
theorem dX4_sheet_4 : decode cX4_sheet 4 = .ok (.ifCond .eq 16, 3) := by decide +kernel
theorem dX4_sheet_7 : decode cX4_sheet 7 = .ok (.iload_n 2, 1) := by decide +kernel
theorem dX4_sheet_8 : decode cX4_sheet 8 = .ok (.invokestatic 244, 3) := by decide +kernel
theorem dX4_sheet_11 : decode cX4_sheet 11 = .ok (.ifCond .eq 9, 3) := by decide +kernel
theorem dX4_sheet_14 : decode cX4_sheet 14 = .ok (.iload_n 3, 1) := by decide +kernel
theorem dX4_sheet_15 : decode cX4_sheet 15 = .ok (.bipush 40, 2) := by decide +kernel
theorem dX4_sheet_17 : decode cX4_sheet 17 = .ok (.if_icmp .le 5, 3) := by decide +kernel
theorem dX4_sheet_20 : decode cX4_sheet 20 = .ok (.iconst (-1), 1) := by decide +kernel
theorem dX4_sheet_21 : decode cX4_sheet 21 = .ok (.ireturn, 1) := by decide +kernel
theorem dX4_sheet_22 : decode cX4_sheet 22 = .ok (.iload_n 3, 1) := by decide +kernel
theorem dX4_sheet_23 : decode cX4_sheet 23 = .ok (.ifCond .ge 6, 3) := by decide +kernel
theorem dX4_sheet_26 : decode cX4_sheet 26 = .ok (.bipush (-14), 2) := by decide +kernel
theorem dX4_sheet_28 : decode cX4_sheet 28 = .ok (.ireturn, 1) := by decide +kernel
theorem dX4_sheet_29 : decode cX4_sheet 29 = .ok (.aload_n 0, 1) := by decide +kernel
theorem dX4_sheet_30 : decode cX4_sheet 30 = .ok (.getfield 47, 3) := by decide +kernel
theorem dX4_sheet_33 : decode cX4_sheet 33 = .ok (.iload_n 1, 1) := by decide +kernel
theorem dX4_sheet_34 : decode cX4_sheet 34 = .ok (.aaload, 1) := by decide +kernel
