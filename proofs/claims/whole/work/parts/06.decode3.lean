theorem dX9_thrown_0 : decode cX9_thrown 0 = .ok (.aload_n 0, 1) := by decide +kernel
theorem dX9_thrown_1 : decode cX9_thrown 1 = .ok (.getfield 1, 3) := by decide +kernel
theorem dX9_thrown_4 : decode cX9_thrown 4 = .ok (.ireturn, 1) := by decide +kernel
theorem dX9_refuse_0 : decode cX9_refuse 0 = .ok (.aload_n 0, 1) := by decide +kernel
theorem dX9_refuse_1 : decode cX9_refuse 1 = .ok (.iconst 1, 1) := by decide +kernel
theorem dX9_refuse_2 : decode cX9_refuse 2 = .ok (.putfield 1, 3) := by decide +kernel
theorem dX9_refuse_5 : decode cX9_refuse 5 = .ok (.iconst 0, 1) := by decide +kernel
theorem dX9_refuse_6 : decode cX9_refuse 6 = .ok (.ireturn, 1) := by decide +kernel
theorem dX9_isIn_0 : decode cX9_isIn 0 = .ok (.iload_n 0, 1) := by decide +kernel
theorem dX9_isIn_1 : decode cX9_isIn 1 = .ok (.iload_n 1, 1) := by decide +kernel
theorem dX9_isIn_2 : decode cX9_isIn 2 = .ok (.if_icmp .lt 12, 3) := by decide +kernel
theorem dX9_isIn_5 : decode cX9_isIn 5 = .ok (.iload_n 0, 1) := by decide +kernel
theorem dX9_isIn_6 : decode cX9_isIn 6 = .ok (.iload_n 2, 1) := by decide +kernel
theorem dX9_isIn_7 : decode cX9_isIn 7 = .ok (.if_icmp .gt 7, 3) := by decide +kernel
theorem dX9_isIn_10 : decode cX9_isIn 10 = .ok (.iconst 1, 1) := by decide +kernel
theorem dX9_isIn_11 : decode cX9_isIn 11 = .ok (.goto 4, 3) := by decide +kernel
theorem dX9_isIn_14 : decode cX9_isIn 14 = .ok (.iconst 0, 1) := by decide +kernel
theorem dX9_isIn_15 : decode cX9_isIn 15 = .ok (.ireturn, 1) := by decide +kernel
theorem dX9_has_0 : decode cX9_has 0 = .ok (.iload_n 0, 1) := by decide +kernel
theorem dX9_has_1 : decode cX9_has 1 = .ok (.iload_n 1, 1) := by decide +kernel
theorem dX9_has_2 : decode cX9_has 2 = .ok (.ishr, 1) := by decide +kernel
theorem dX9_has_3 : decode cX9_has 3 = .ok (.iconst 1, 1) := by decide +kernel
theorem dX9_has_4 : decode cX9_has 4 = .ok (.iand, 1) := by decide +kernel
theorem dX9_has_5 : decode cX9_has 5 = .ok (.iconst 1, 1) := by decide +kernel
theorem dX9_has_6 : decode cX9_has 6 = .ok (.if_icmp .ne 7, 3) := by decide +kernel
theorem dX9_has_9 : decode cX9_has 9 = .ok (.iconst 1, 1) := by decide +kernel
theorem dX9_has_10 : decode cX9_has 10 = .ok (.goto 4, 3) := by decide +kernel
theorem dX9_has_13 : decode cX9_has 13 = .ok (.iconst 0, 1) := by decide +kernel
theorem dX9_has_14 : decode cX9_has 14 = .ok (.ireturn, 1) := by decide +kernel
theorem dX9_lays_0 : decode cX9_lays 0 = .ok (.bipush 24, 2) := by decide +kernel
theorem dX9_lays_2 : decode cX9_lays 2 = .ok (.istore_n 2, 1) := by decide +kernel
theorem dX9_lays_3 : decode cX9_lays 3 = .ok (.iload_n 2, 1) := by decide +kernel
theorem dX9_lays_4 : decode cX9_lays 4 = .ok (.ifCond .lt 35, 3) := by decide +kernel
theorem dX9_lays_7 : decode cX9_lays 7 = .ok (.aload_n 0, 1) := by decide +kernel
theorem dX9_lays_8 : decode cX9_lays 8 = .ok (.getfield 7, 3) := by decide +kernel
theorem dX9_lays_11 : decode cX9_lays 11 = .ok (.aload_n 0, 1) := by decide +kernel
theorem dX9_lays_12 : decode cX9_lays 12 = .ok (.getfield 11, 3) := by decide +kernel
theorem dX9_lays_15 : decode cX9_lays 15 = .ok (.iload_n 1, 1) := by decide +kernel
theorem dX9_lays_16 : decode cX9_lays 16 = .ok (.iload_n 2, 1) := by decide +kernel
theorem dX9_lays_17 : decode cX9_lays 17 = .ok (.iushr, 1) := by decide +kernel
theorem dX9_lays_18 : decode cX9_lays 18 = .ok (.sipush 255, 3) := by decide +kernel
theorem dX9_lays_21 : decode cX9_lays 21 = .ok (.iand, 1) := by decide +kernel
theorem dX9_lays_22 : decode cX9_lays 22 = .ok (.iastore, 1) := by decide +kernel
theorem dX9_lays_23 : decode cX9_lays 23 = .ok (.aload_n 0, 1) := by decide +kernel
theorem dX9_lays_24 : decode cX9_lays 24 = .ok (.dup, 1) := by decide +kernel
theorem dX9_lays_25 : decode cX9_lays 25 = .ok (.getfield 11, 3) := by decide +kernel
theorem dX9_lays_28 : decode cX9_lays 28 = .ok (.iconst 1, 1) := by decide +kernel
theorem dX9_lays_29 : decode cX9_lays 29 = .ok (.iadd, 1) := by decide +kernel
theorem dX9_lays_30 : decode cX9_lays 30 = .ok (.putfield 11, 3) := by decide +kernel
theorem dX9_lays_33 : decode cX9_lays 33 = .ok (.iinc 2 (-8), 3) := by decide +kernel
theorem dX9_lays_36 : decode cX9_lays 36 = .ok (.goto (-33), 3) := by decide +kernel
theorem dX9_lays_39 : decode cX9_lays 39 = .ok (.return_, 1) := by decide +kernel
theorem dX9_feed_0 : decode cX9_feed 0 = .ok (.aload_n 0, 1) := by decide +kernel
theorem dX9_feed_1 : decode cX9_feed 1 = .ok (.iconst 0, 1) := by decide +kernel
theorem dX9_feed_2 : decode cX9_feed 2 = .ok (.putfield 1, 3) := by decide +kernel
theorem dX9_feed_5 : decode cX9_feed 5 = .ok (.aload_n 0, 1) := by decide +kernel
theorem dX9_feed_6 : decode cX9_feed 6 = .ok (.getfield 11, 3) := by decide +kernel
theorem dX9_feed_9 : decode cX9_feed 9 = .ok (.bipush 20, 2) := by decide +kernel
theorem dX9_feed_11 : decode cX9_feed 11 = .ok (.iadd, 1) := by decide +kernel
theorem dX9_feed_12 : decode cX9_feed 12 = .ok (.sipush 840, 3) := by decide +kernel
theorem dX9_feed_15 : decode cX9_feed 15 = .ok (.if_icmp .le 5, 3) := by decide +kernel
theorem dX9_feed_18 : decode cX9_feed 18 = .ok (.iconst (-1), 1) := by decide +kernel
theorem dX9_feed_19 : decode cX9_feed 19 = .ok (.ireturn, 1) := by decide +kernel
theorem dX9_feed_20 : decode cX9_feed 20 = .ok (.aload_n 0, 1) := by decide +kernel
theorem dX9_feed_21 : decode cX9_feed 21 = .ok (.iload_n 1, 1) := by decide +kernel
theorem dX9_feed_22 : decode cX9_feed 22 = .ok (.invokevirtual 14, 3) := by decide +kernel
theorem dX9_feed_25 : decode cX9_feed 25 = .ok (.aload_n 0, 1) := by decide +kernel
theorem dX9_feed_26 : decode cX9_feed 26 = .ok (.iload_n 2, 1) := by decide +kernel
theorem dX9_feed_27 : decode cX9_feed 27 = .ok (.invokevirtual 14, 3) := by decide +kernel
theorem dX9_feed_30 : decode cX9_feed 30 = .ok (.aload_n 0, 1) := by decide +kernel
theorem dX9_feed_31 : decode cX9_feed 31 = .ok (.iload_n 3, 1) := by decide +kernel
theorem dX9_feed_32 : decode cX9_feed 32 = .ok (.invokevirtual 14, 3) := by decide +kernel
theorem dX9_feed_35 : decode cX9_feed 35 = .ok (.aload_n 0, 1) := by decide +kernel
theorem dX9_feed_36 : decode cX9_feed 36 = .ok (.iload 4, 2) := by decide +kernel
theorem dX9_feed_38 : decode cX9_feed 38 = .ok (.invokevirtual 14, 3) := by decide +kernel
theorem dX9_feed_41 : decode cX9_feed 41 = .ok (.aload_n 0, 1) := by decide +kernel
theorem dX9_feed_42 : decode cX9_feed 42 = .ok (.iload 5, 2) := by decide +kernel
theorem dX9_feed_44 : decode cX9_feed 44 = .ok (.invokevirtual 14, 3) := by decide +kernel
theorem dX9_feed_47 : decode cX9_feed 47 = .ok (.aload_n 0, 1) := by decide +kernel
theorem dX9_feed_48 : decode cX9_feed 48 = .ok (.getfield 11, 3) := by decide +kernel
theorem dX9_feed_51 : decode cX9_feed 51 = .ok (.ireturn, 1) := by decide +kernel
theorem dX9_end_0 : decode cX9_end 0 = .ok (.aload_n 0, 1) := by decide +kernel
theorem dX9_end_1 : decode cX9_end 1 = .ok (.iconst 0, 1) := by decide +kernel
theorem dX9_end_2 : decode cX9_end 2 = .ok (.putfield 1, 3) := by decide +kernel
theorem dX9_end_5 : decode cX9_end 5 = .ok (.iload_n 1, 1) := by decide +kernel
theorem dX9_end_6 : decode cX9_end 6 = .ok (.ifCond .lt 11, 3) := by decide +kernel
theorem dX9_end_9 : decode cX9_end 9 = .ok (.iload_n 1, 1) := by decide +kernel
theorem dX9_end_10 : decode cX9_end 10 = .ok (.aload_n 0, 1) := by decide +kernel
theorem dX9_end_11 : decode cX9_end 11 = .ok (.getfield 11, 3) := by decide +kernel
theorem dX9_end_14 : decode cX9_end 14 = .ok (.if_icmp .le 5, 3) := by decide +kernel
theorem dX9_end_17 : decode cX9_end 17 = .ok (.iconst 0, 1) := by decide +kernel
theorem dX9_end_18 : decode cX9_end 18 = .ok (.ireturn, 1) := by decide +kernel
theorem dX9_end_19 : decode cX9_end 19 = .ok (.aload_n 0, 1) := by decide +kernel
theorem dX9_end_20 : decode cX9_end 20 = .ok (.iload_n 1, 1) := by decide +kernel
theorem dX9_end_21 : decode cX9_end 21 = .ok (.putfield 11, 3) := by decide +kernel
theorem dX9_end_24 : decode cX9_end 24 = .ok (.iconst 1, 1) := by decide +kernel
theorem dX9_end_25 : decode cX9_end 25 = .ok (.ireturn, 1) := by decide +kernel
theorem dX9_tapeAt_0 : decode cX9_tapeAt 0 = .ok (.iload_n 1, 1) := by decide +kernel
theorem dX9_tapeAt_1 : decode cX9_tapeAt 1 = .ok (.aload_n 0, 1) := by decide +kernel
theorem dX9_tapeAt_2 : decode cX9_tapeAt 2 = .ok (.getfield 18, 3) := by decide +kernel
theorem dX9_tapeAt_5 : decode cX9_tapeAt 5 = .ok (.if_icmp .ge 12, 3) := by decide +kernel
theorem dX9_tapeAt_8 : decode cX9_tapeAt 8 = .ok (.aload_n 0, 1) := by decide +kernel
theorem dX9_tapeAt_9 : decode cX9_tapeAt 9 = .ok (.getfield 7, 3) := by decide +kernel
theorem dX9_tapeAt_12 : decode cX9_tapeAt 12 = .ok (.iload_n 1, 1) := by decide +kernel
theorem dX9_tapeAt_13 : decode cX9_tapeAt 13 = .ok (.iaload, 1) := by decide +kernel
theorem dX9_tapeAt_14 : decode cX9_tapeAt 14 = .ok (.goto 4, 3) := by decide +kernel
theorem dX9_tapeAt_17 : decode cX9_tapeAt 17 = .ok (.iconst 0, 1) := by decide +kernel
theorem dX9_tapeAt_18 : decode cX9_tapeAt 18 = .ok (.ireturn, 1) := by decide +kernel
theorem dX9_isDigit_0 : decode cX9_isDigit 0 = .ok (.iload_n 0, 1) := by decide +kernel
theorem dX9_isDigit_1 : decode cX9_isDigit 1 = .ok (.bipush 48, 2) := by decide +kernel
theorem dX9_isDigit_3 : decode cX9_isDigit 3 = .ok (.if_icmp .lt 13, 3) := by decide +kernel
theorem dX9_isDigit_6 : decode cX9_isDigit 6 = .ok (.iload_n 0, 1) := by decide +kernel
theorem dX9_isDigit_7 : decode cX9_isDigit 7 = .ok (.bipush 57, 2) := by decide +kernel
theorem dX9_isDigit_9 : decode cX9_isDigit 9 = .ok (.if_icmp .gt 7, 3) := by decide +kernel
theorem dX9_isDigit_12 : decode cX9_isDigit 12 = .ok (.iconst 1, 1) := by decide +kernel
theorem dX9_isDigit_13 : decode cX9_isDigit 13 = .ok (.goto 4, 3) := by decide +kernel
theorem dX9_isDigit_16 : decode cX9_isDigit 16 = .ok (.iconst 0, 1) := by decide +kernel
theorem dX9_isDigit_17 : decode cX9_isDigit 17 = .ok (.ireturn, 1) := by decide +kernel
theorem dX9_isLetter_0 : decode cX9_isLetter 0 = .ok (.iload_n 0, 1) := by decide +kernel
theorem dX9_isLetter_1 : decode cX9_isLetter 1 = .ok (.bipush 97, 2) := by decide +kernel
theorem dX9_isLetter_3 : decode cX9_isLetter 3 = .ok (.if_icmp .lt 13, 3) := by decide +kernel
theorem dX9_isLetter_6 : decode cX9_isLetter 6 = .ok (.iload_n 0, 1) := by decide +kernel
theorem dX9_isLetter_7 : decode cX9_isLetter 7 = .ok (.bipush 122, 2) := by decide +kernel
theorem dX9_isLetter_9 : decode cX9_isLetter 9 = .ok (.if_icmp .gt 7, 3) := by decide +kernel
theorem dX9_isLetter_12 : decode cX9_isLetter 12 = .ok (.iconst 1, 1) := by decide +kernel
theorem dX9_isLetter_13 : decode cX9_isLetter 13 = .ok (.goto 4, 3) := by decide +kernel
theorem dX9_isLetter_16 : decode cX9_isLetter 16 = .ok (.iconst 0, 1) := by decide +kernel
theorem dX9_isLetter_17 : decode cX9_isLetter 17 = .ok (.ireturn, 1) := by decide +kernel
theorem dX9_go_0 : decode cX9_go 0 = .ok (.aload_n 0, 1) := by decide +kernel
theorem dX9_go_1 : decode cX9_go 1 = .ok (.getfield 21, 3) := by decide +kernel
theorem dX9_go_4 : decode cX9_go 4 = .ok (.aload_n 0, 1) := by decide +kernel
theorem dX9_go_5 : decode cX9_go 5 = .ok (.getfield 18, 3) := by decide +kernel
theorem dX9_go_8 : decode cX9_go 8 = .ok (.if_icmp .ge 44, 3) := by decide +kernel
theorem dX9_go_11 : decode cX9_go 11 = .ok (.aload_n 0, 1) := by decide +kernel
theorem dX9_go_12 : decode cX9_go 12 = .ok (.getfield 7, 3) := by decide +kernel
theorem dX9_go_15 : decode cX9_go 15 = .ok (.aload_n 0, 1) := by decide +kernel
theorem dX9_go_16 : decode cX9_go 16 = .ok (.getfield 21, 3) := by decide +kernel
theorem dX9_go_19 : decode cX9_go 19 = .ok (.iaload, 1) := by decide +kernel
theorem dX9_go_20 : decode cX9_go 20 = .ok (.bipush 32, 2) := by decide +kernel
theorem dX9_go_22 : decode cX9_go 22 = .ok (.if_icmp .eq 17, 3) := by decide +kernel
theorem dX9_go_25 : decode cX9_go 25 = .ok (.aload_n 0, 1) := by decide +kernel
theorem dX9_go_26 : decode cX9_go 26 = .ok (.getfield 7, 3) := by decide +kernel
theorem dX9_go_29 : decode cX9_go 29 = .ok (.aload_n 0, 1) := by decide +kernel
theorem dX9_go_30 : decode cX9_go 30 = .ok (.getfield 21, 3) := by decide +kernel
theorem dX9_go_33 : decode cX9_go 33 = .ok (.iaload, 1) := by decide +kernel
theorem dX9_go_34 : decode cX9_go 34 = .ok (.bipush 10, 2) := by decide +kernel
theorem dX9_go_36 : decode cX9_go 36 = .ok (.if_icmp .ne 16, 3) := by decide +kernel
theorem dX9_go_39 : decode cX9_go 39 = .ok (.aload_n 0, 1) := by decide +kernel
theorem dX9_go_40 : decode cX9_go 40 = .ok (.dup, 1) := by decide +kernel
theorem dX9_go_41 : decode cX9_go 41 = .ok (.getfield 21, 3) := by decide +kernel
theorem dX9_go_44 : decode cX9_go 44 = .ok (.iconst 1, 1) := by decide +kernel
theorem dX9_go_45 : decode cX9_go 45 = .ok (.iadd, 1) := by decide +kernel
theorem dX9_go_46 : decode cX9_go 46 = .ok (.putfield 21, 3) := by decide +kernel
theorem dX9_go_49 : decode cX9_go 49 = .ok (.goto (-49), 3) := by decide +kernel
theorem dX9_go_52 : decode cX9_go 52 = .ok (.aload_n 0, 1) := by decide +kernel
theorem dX9_go_53 : decode cX9_go 53 = .ok (.aload_n 0, 1) := by decide +kernel
theorem dX9_go_54 : decode cX9_go 54 = .ok (.getfield 21, 3) := by decide +kernel
theorem dX9_go_57 : decode cX9_go 57 = .ok (.putfield 24, 3) := by decide +kernel
theorem dX9_go_60 : decode cX9_go 60 = .ok (.aload_n 0, 1) := by decide +kernel
theorem dX9_go_61 : decode cX9_go 61 = .ok (.getfield 18, 3) := by decide +kernel
theorem dX9_go_64 : decode cX9_go 64 = .ok (.sipush 800, 3) := by decide +kernel
theorem dX9_go_67 : decode cX9_go 67 = .ok (.if_icmp .le 26, 3) := by decide +kernel
theorem dX9_go_70 : decode cX9_go 70 = .ok (.aload_n 0, 1) := by decide +kernel
theorem dX9_go_71 : decode cX9_go 71 = .ok (.getfield 24, 3) := by decide +kernel
theorem dX9_go_74 : decode cX9_go 74 = .ok (.sipush 800, 3) := by decide +kernel
theorem dX9_go_77 : decode cX9_go 77 = .ok (.if_icmp .lt 16, 3) := by decide +kernel
theorem dX9_go_80 : decode cX9_go 80 = .ok (.aload_n 0, 1) := by decide +kernel
theorem dX9_go_81 : decode cX9_go 81 = .ok (.sipush 800, 3) := by decide +kernel
theorem dX9_go_84 : decode cX9_go 84 = .ok (.putfield 24, 3) := by decide +kernel
theorem dX9_go_87 : decode cX9_go 87 = .ok (.aload_n 0, 1) := by decide +kernel
theorem dX9_go_88 : decode cX9_go 88 = .ok (.iconst 1, 1) := by decide +kernel
theorem dX9_go_89 : decode cX9_go 89 = .ok (.putfield 27, 3) := by decide +kernel
theorem dX9_go_92 : decode cX9_go 92 = .ok (.return_, 1) := by decide +kernel
theorem dX9_go_93 : decode cX9_go 93 = .ok (.aload_n 0, 1) := by decide +kernel
theorem dX9_go_94 : decode cX9_go 94 = .ok (.getfield 21, 3) := by decide +kernel
theorem dX9_go_97 : decode cX9_go 97 = .ok (.aload_n 0, 1) := by decide +kernel
theorem dX9_go_98 : decode cX9_go 98 = .ok (.getfield 18, 3) := by decide +kernel
theorem dX9_go_101 : decode cX9_go 101 = .ok (.if_icmp .lt 9, 3) := by decide +kernel
theorem dX9_go_104 : decode cX9_go 104 = .ok (.aload_n 0, 1) := by decide +kernel
theorem dX9_go_105 : decode cX9_go 105 = .ok (.iconst 0, 1) := by decide +kernel
theorem dX9_go_106 : decode cX9_go 106 = .ok (.putfield 27, 3) := by decide +kernel
theorem dX9_go_109 : decode cX9_go 109 = .ok (.return_, 1) := by decide +kernel
theorem dX9_go_110 : decode cX9_go 110 = .ok (.aload_n 0, 1) := by decide +kernel
theorem dX9_go_111 : decode cX9_go 111 = .ok (.getfield 7, 3) := by decide +kernel
theorem dX9_go_114 : decode cX9_go 114 = .ok (.aload_n 0, 1) := by decide +kernel
theorem dX9_go_115 : decode cX9_go 115 = .ok (.getfield 21, 3) := by decide +kernel
theorem dX9_go_118 : decode cX9_go 118 = .ok (.iaload, 1) := by decide +kernel
theorem dX9_go_119 : decode cX9_go 119 = .ok (.istore_n 1, 1) := by decide +kernel
theorem dX9_go_120 : decode cX9_go 120 = .ok (.iload_n 1, 1) := by decide +kernel
theorem dX9_go_121 : decode cX9_go 121 = .ok (.invokestatic 30, 3) := by decide +kernel
theorem dX9_go_124 : decode cX9_go 124 = .ok (.ifCond .ne 36, 3) := by decide +kernel
theorem dX9_go_127 : decode cX9_go 127 = .ok (.iload_n 1, 1) := by decide +kernel
theorem dX9_go_128 : decode cX9_go 128 = .ok (.invokestatic 34, 3) := by decide +kernel
theorem dX9_go_131 : decode cX9_go 131 = .ok (.ifCond .ne 29, 3) := by decide +kernel
theorem dX9_go_134 : decode cX9_go 134 = .ok (.aload_n 0, 1) := by decide +kernel
theorem dX9_go_135 : decode cX9_go 135 = .ok (.iload_n 1, 1) := by decide +kernel
theorem dX9_go_136 : decode cX9_go 136 = .ok (.bipush 59, 2) := by decide +kernel
theorem dX9_go_138 : decode cX9_go 138 = .ok (.if_icmp .ne 7, 3) := by decide +kernel
theorem dX9_go_141 : decode cX9_go 141 = .ok (.iconst 4, 1) := by decide +kernel
theorem dX9_go_142 : decode cX9_go 142 = .ok (.goto 4, 3) := by decide +kernel
theorem dX9_go_145 : decode cX9_go 145 = .ok (.iconst 1, 1) := by decide +kernel
theorem dX9_go_146 : decode cX9_go 146 = .ok (.putfield 27, 3) := by decide +kernel
theorem dX9_go_149 : decode cX9_go 149 = .ok (.aload_n 0, 1) := by decide +kernel
theorem dX9_go_150 : decode cX9_go 150 = .ok (.dup, 1) := by decide +kernel
theorem dX9_go_151 : decode cX9_go 151 = .ok (.getfield 21, 3) := by decide +kernel
theorem dX9_go_154 : decode cX9_go 154 = .ok (.iconst 1, 1) := by decide +kernel
theorem dX9_go_155 : decode cX9_go 155 = .ok (.iadd, 1) := by decide +kernel
theorem dX9_go_156 : decode cX9_go 156 = .ok (.putfield 21, 3) := by decide +kernel
theorem dX9_go_159 : decode cX9_go 159 = .ok (.return_, 1) := by decide +kernel
theorem dX9_go_160 : decode cX9_go 160 = .ok (.iload_n 1, 1) := by decide +kernel
theorem dX9_go_161 : decode cX9_go 161 = .ok (.invokestatic 30, 3) := by decide +kernel
theorem dX9_go_164 : decode cX9_go 164 = .ok (.istore_n 2, 1) := by decide +kernel
theorem dX9_go_165 : decode cX9_go 165 = .ok (.iconst 1, 1) := by decide +kernel
theorem dX9_go_166 : decode cX9_go 166 = .ok (.istore_n 3, 1) := by decide +kernel
theorem dX9_go_167 : decode cX9_go 167 = .ok (.aload_n 0, 1) := by decide +kernel
theorem dX9_go_168 : decode cX9_go 168 = .ok (.lconst 0, 1) := by decide +kernel
theorem dX9_go_169 : decode cX9_go 169 = .ok (.putfield 37, 3) := by decide +kernel
theorem dX9_go_172 : decode cX9_go 172 = .ok (.aload_n 0, 1) := by decide +kernel
theorem dX9_go_173 : decode cX9_go 173 = .ok (.iconst 0, 1) := by decide +kernel
theorem dX9_go_174 : decode cX9_go 174 = .ok (.putfield 41, 3) := by decide +kernel
theorem dX9_go_177 : decode cX9_go 177 = .ok (.aload_n 0, 1) := by decide +kernel
theorem dX9_go_178 : decode cX9_go 178 = .ok (.aload_n 0, 1) := by decide +kernel
theorem dX9_go_179 : decode cX9_go 179 = .ok (.getfield 21, 3) := by decide +kernel
theorem dX9_go_182 : decode cX9_go 182 = .ok (.invokevirtual 44, 3) := by decide +kernel
theorem dX9_go_185 : decode cX9_go 185 = .ok (.invokestatic 30, 3) := by decide +kernel
theorem dX9_go_188 : decode cX9_go 188 = .ok (.ifCond .ne 17, 3) := by decide +kernel
theorem dX9_go_191 : decode cX9_go 191 = .ok (.aload_n 0, 1) := by decide +kernel
theorem dX9_go_192 : decode cX9_go 192 = .ok (.aload_n 0, 1) := by decide +kernel
theorem dX9_go_193 : decode cX9_go 193 = .ok (.getfield 21, 3) := by decide +kernel
theorem dX9_go_196 : decode cX9_go 196 = .ok (.invokevirtual 44, 3) := by decide +kernel
theorem dX9_go_199 : decode cX9_go 199 = .ok (.invokestatic 34, 3) := by decide +kernel
theorem dX9_go_202 : decode cX9_go 202 = .ok (.ifCond .eq 110, 3) := by decide +kernel
theorem dX9_go_205 : decode cX9_go 205 = .ok (.aload_n 0, 1) := by decide +kernel
theorem dX9_go_206 : decode cX9_go 206 = .ok (.getfield 7, 3) := by decide +kernel
theorem dX9_go_209 : decode cX9_go 209 = .ok (.aload_n 0, 1) := by decide +kernel
theorem dX9_go_210 : decode cX9_go 210 = .ok (.getfield 21, 3) := by decide +kernel
theorem dX9_go_213 : decode cX9_go 213 = .ok (.iaload, 1) := by decide +kernel
theorem dX9_go_214 : decode cX9_go 214 = .ok (.istore 4, 2) := by decide +kernel
theorem dX9_go_216 : decode cX9_go 216 = .ok (.iload_n 3, 1) := by decide +kernel
theorem dX9_go_217 : decode cX9_go 217 = .ok (.ifCond .eq 16, 3) := by decide +kernel
theorem dX9_go_220 : decode cX9_go 220 = .ok (.iload 4, 2) := by decide +kernel
theorem dX9_go_222 : decode cX9_go 222 = .ok (.invokestatic 30, 3) := by decide +kernel
theorem dX9_go_225 : decode cX9_go 225 = .ok (.iload_n 2, 1) := by decide +kernel
theorem dX9_go_226 : decode cX9_go 226 = .ok (.if_icmp .ne 7, 3) := by decide +kernel
theorem dX9_go_229 : decode cX9_go 229 = .ok (.iconst 1, 1) := by decide +kernel
theorem dX9_go_230 : decode cX9_go 230 = .ok (.goto 4, 3) := by decide +kernel
theorem dX9_go_233 : decode cX9_go 233 = .ok (.iconst 0, 1) := by decide +kernel
theorem dX9_go_234 : decode cX9_go 234 = .ok (.istore_n 3, 1) := by decide +kernel
theorem dX9_go_235 : decode cX9_go 235 = .ok (.aload_n 0, 1) := by decide +kernel
theorem dX9_go_236 : decode cX9_go 236 = .ok (.getfield 21, 3) := by decide +kernel
theorem dX9_go_239 : decode cX9_go 239 = .ok (.aload_n 0, 1) := by decide +kernel
theorem dX9_go_240 : decode cX9_go 240 = .ok (.getfield 24, 3) := by decide +kernel
theorem dX9_go_243 : decode cX9_go 243 = .ok (.isub, 1) := by decide +kernel
theorem dX9_go_244 : decode cX9_go 244 = .ok (.bipush 6, 2) := by decide +kernel
theorem dX9_go_246 : decode cX9_go 246 = .ok (.if_icmp .ge 23, 3) := by decide +kernel
theorem dX9_go_249 : decode cX9_go 249 = .ok (.aload_n 0, 1) := by decide +kernel
theorem dX9_go_250 : decode cX9_go 250 = .ok (.ldc2_w 48, 3) := by decide +kernel
theorem dX9_go_253 : decode cX9_go 253 = .ok (.aload_n 0, 1) := by decide +kernel
theorem dX9_go_254 : decode cX9_go 254 = .ok (.getfield 37, 3) := by decide +kernel
theorem dX9_go_257 : decode cX9_go 257 = .ok (.lmul, 1) := by decide +kernel
theorem dX9_go_258 : decode cX9_go 258 = .ok (.iload 4, 2) := by decide +kernel
theorem dX9_go_260 : decode cX9_go 260 = .ok (.i2l, 1) := by decide +kernel
theorem dX9_go_261 : decode cX9_go 261 = .ok (.ladd, 1) := by decide +kernel
theorem dX9_go_262 : decode cX9_go 262 = .ok (.ldc2_w 50, 3) := by decide +kernel
theorem dX9_go_265 : decode cX9_go 265 = .ok (.lsub, 1) := by decide +kernel
theorem dX9_go_266 : decode cX9_go 266 = .ok (.putfield 37, 3) := by decide +kernel
theorem dX9_go_269 : decode cX9_go 269 = .ok (.aload_n 0, 1) := by decide +kernel
theorem dX9_go_270 : decode cX9_go 270 = .ok (.getfield 21, 3) := by decide +kernel
theorem dX9_go_273 : decode cX9_go 273 = .ok (.aload_n 0, 1) := by decide +kernel
theorem dX9_go_274 : decode cX9_go 274 = .ok (.getfield 24, 3) := by decide +kernel
theorem dX9_go_277 : decode cX9_go 277 = .ok (.isub, 1) := by decide +kernel
theorem dX9_go_278 : decode cX9_go 278 = .ok (.iconst 4, 1) := by decide +kernel
theorem dX9_go_279 : decode cX9_go 279 = .ok (.if_icmp .ge 20, 3) := by decide +kernel
theorem dX9_go_282 : decode cX9_go 282 = .ok (.aload_n 0, 1) := by decide +kernel
theorem dX9_go_283 : decode cX9_go 283 = .ok (.bipush 10, 2) := by decide +kernel
theorem dX9_go_285 : decode cX9_go 285 = .ok (.aload_n 0, 1) := by decide +kernel
theorem dX9_go_286 : decode cX9_go 286 = .ok (.getfield 41, 3) := by decide +kernel
theorem dX9_go_289 : decode cX9_go 289 = .ok (.imul, 1) := by decide +kernel
theorem dX9_go_290 : decode cX9_go 290 = .ok (.iload 4, 2) := by decide +kernel
theorem dX9_go_292 : decode cX9_go 292 = .ok (.iadd, 1) := by decide +kernel
theorem dX9_go_293 : decode cX9_go 293 = .ok (.bipush 48, 2) := by decide +kernel
theorem dX9_go_295 : decode cX9_go 295 = .ok (.isub, 1) := by decide +kernel
theorem dX9_go_296 : decode cX9_go 296 = .ok (.putfield 41, 3) := by decide +kernel
theorem dX9_go_299 : decode cX9_go 299 = .ok (.aload_n 0, 1) := by decide +kernel
theorem dX9_go_300 : decode cX9_go 300 = .ok (.dup, 1) := by decide +kernel
theorem dX9_go_301 : decode cX9_go 301 = .ok (.getfield 21, 3) := by decide +kernel
theorem dX9_go_304 : decode cX9_go 304 = .ok (.iconst 1, 1) := by decide +kernel
theorem dX9_go_305 : decode cX9_go 305 = .ok (.iadd, 1) := by decide +kernel
theorem dX9_go_306 : decode cX9_go 306 = .ok (.putfield 21, 3) := by decide +kernel
theorem dX9_go_309 : decode cX9_go 309 = .ok (.goto (-132), 3) := by decide +kernel
theorem dX9_go_312 : decode cX9_go 312 = .ok (.aload_n 0, 1) := by decide +kernel
theorem dX9_go_313 : decode cX9_go 313 = .ok (.iload_n 3, 1) := by decide +kernel
theorem dX9_go_314 : decode cX9_go 314 = .ok (.ifCond .eq 20, 3) := by decide +kernel
theorem dX9_go_317 : decode cX9_go 317 = .ok (.iload_n 2, 1) := by decide +kernel
theorem dX9_go_318 : decode cX9_go 318 = .ok (.ifCond .ne 20, 3) := by decide +kernel
theorem dX9_go_321 : decode cX9_go 321 = .ok (.aload_n 0, 1) := by decide +kernel
theorem dX9_go_322 : decode cX9_go 322 = .ok (.getfield 21, 3) := by decide +kernel
theorem dX9_go_325 : decode cX9_go 325 = .ok (.aload_n 0, 1) := by decide +kernel
theorem dX9_go_326 : decode cX9_go 326 = .ok (.getfield 24, 3) := by decide +kernel
theorem dX9_go_329 : decode cX9_go 329 = .ok (.isub, 1) := by decide +kernel
theorem dX9_go_330 : decode cX9_go 330 = .ok (.iconst 4, 1) := by decide +kernel
theorem dX9_go_331 : decode cX9_go 331 = .ok (.if_icmp .le 7, 3) := by decide +kernel
theorem dX9_go_334 : decode cX9_go 334 = .ok (.iconst 1, 1) := by decide +kernel
theorem dX9_go_335 : decode cX9_go 335 = .ok (.goto 12, 3) := by decide +kernel
theorem dX9_go_338 : decode cX9_go 338 = .ok (.iload_n 2, 1) := by decide +kernel
theorem dX9_go_339 : decode cX9_go 339 = .ok (.ifCond .eq 7, 3) := by decide +kernel
theorem dX9_go_342 : decode cX9_go 342 = .ok (.iconst 2, 1) := by decide +kernel
theorem dX9_go_343 : decode cX9_go 343 = .ok (.goto 4, 3) := by decide +kernel
theorem dX9_go_346 : decode cX9_go 346 = .ok (.iconst 3, 1) := by decide +kernel
theorem dX9_go_347 : decode cX9_go 347 = .ok (.putfield 27, 3) := by decide +kernel
theorem dX9_go_350 : decode cX9_go 350 = .ok (.return_, 1) := by decide +kernel
theorem dX9_is_0 : decode cX9_is 0 = .ok (.ldc2_w 48, 3) := by decide +kernel
theorem dX9_is_3 : decode cX9_is 3 = .ok (.iload_n 1, 1) := by decide +kernel
theorem dX9_is_4 : decode cX9_is 4 = .ok (.i2l, 1) := by decide +kernel
theorem dX9_is_5 : decode cX9_is 5 = .ok (.ldc2_w 50, 3) := by decide +kernel
theorem dX9_is_8 : decode cX9_is 8 = .ok (.lsub, 1) := by decide +kernel
theorem dX9_is_9 : decode cX9_is 9 = .ok (.lmul, 1) := by decide +kernel
theorem dX9_is_10 : decode cX9_is 10 = .ok (.iload_n 2, 1) := by decide +kernel
theorem dX9_is_11 : decode cX9_is 11 = .ok (.i2l, 1) := by decide +kernel
theorem dX9_is_12 : decode cX9_is 12 = .ok (.ladd, 1) := by decide +kernel
theorem dX9_is_13 : decode cX9_is 13 = .ok (.ldc2_w 50, 3) := by decide +kernel
theorem dX9_is_16 : decode cX9_is 16 = .ok (.lsub, 1) := by decide +kernel
theorem dX9_is_17 : decode cX9_is 17 = .ok (.lstore 6, 2) := by decide +kernel
theorem dX9_is_19 : decode cX9_is 19 = .ok (.iload_n 3, 1) := by decide +kernel
theorem dX9_is_20 : decode cX9_is 20 = .ok (.ifCond .le 18, 3) := by decide +kernel
theorem dX9_is_23 : decode cX9_is 23 = .ok (.ldc2_w 48, 3) := by decide +kernel
theorem dX9_is_26 : decode cX9_is 26 = .ok (.lload 6, 2) := by decide +kernel
theorem dX9_is_28 : decode cX9_is 28 = .ok (.lmul, 1) := by decide +kernel
theorem dX9_is_29 : decode cX9_is 29 = .ok (.iload_n 3, 1) := by decide +kernel
theorem dX9_is_30 : decode cX9_is 30 = .ok (.i2l, 1) := by decide +kernel
theorem dX9_is_31 : decode cX9_is 31 = .ok (.ladd, 1) := by decide +kernel
theorem dX9_is_32 : decode cX9_is 32 = .ok (.ldc2_w 50, 3) := by decide +kernel
theorem dX9_is_35 : decode cX9_is 35 = .ok (.lsub, 1) := by decide +kernel
theorem dX9_is_36 : decode cX9_is 36 = .ok (.lstore 6, 2) := by decide +kernel
theorem dX9_is_38 : decode cX9_is 38 = .ok (.iload 4, 2) := by decide +kernel
theorem dX9_is_40 : decode cX9_is 40 = .ok (.ifCond .le 19, 3) := by decide +kernel
theorem dX9_is_43 : decode cX9_is 43 = .ok (.ldc2_w 48, 3) := by decide +kernel
theorem dX9_is_46 : decode cX9_is 46 = .ok (.lload 6, 2) := by decide +kernel
theorem dX9_is_48 : decode cX9_is 48 = .ok (.lmul, 1) := by decide +kernel
theorem dX9_is_49 : decode cX9_is 49 = .ok (.iload 4, 2) := by decide +kernel
theorem dX9_is_51 : decode cX9_is 51 = .ok (.i2l, 1) := by decide +kernel
theorem dX9_is_52 : decode cX9_is 52 = .ok (.ladd, 1) := by decide +kernel
theorem dX9_is_53 : decode cX9_is 53 = .ok (.ldc2_w 50, 3) := by decide +kernel
theorem dX9_is_56 : decode cX9_is 56 = .ok (.lsub, 1) := by decide +kernel
theorem dX9_is_57 : decode cX9_is 57 = .ok (.lstore 6, 2) := by decide +kernel
theorem dX9_is_59 : decode cX9_is 59 = .ok (.iload 5, 2) := by decide +kernel
theorem dX9_is_61 : decode cX9_is 61 = .ok (.ifCond .le 19, 3) := by decide +kernel
theorem dX9_is_64 : decode cX9_is 64 = .ok (.ldc2_w 48, 3) := by decide +kernel
theorem dX9_is_67 : decode cX9_is 67 = .ok (.lload 6, 2) := by decide +kernel
theorem dX9_is_69 : decode cX9_is 69 = .ok (.lmul, 1) := by decide +kernel
theorem dX9_is_70 : decode cX9_is 70 = .ok (.iload 5, 2) := by decide +kernel
theorem dX9_is_72 : decode cX9_is 72 = .ok (.i2l, 1) := by decide +kernel
theorem dX9_is_73 : decode cX9_is 73 = .ok (.ladd, 1) := by decide +kernel
theorem dX9_is_74 : decode cX9_is 74 = .ok (.ldc2_w 50, 3) := by decide +kernel
theorem dX9_is_77 : decode cX9_is 77 = .ok (.lsub, 1) := by decide +kernel
theorem dX9_is_78 : decode cX9_is 78 = .ok (.lstore 6, 2) := by decide +kernel
theorem dX9_is_80 : decode cX9_is 80 = .ok (.aload_n 0, 1) := by decide +kernel
theorem dX9_is_81 : decode cX9_is 81 = .ok (.getfield 27, 3) := by decide +kernel
theorem dX9_is_84 : decode cX9_is 84 = .ok (.iconst 2, 1) := by decide +kernel
theorem dX9_is_85 : decode cX9_is 85 = .ok (.if_icmp .ne 17, 3) := by decide +kernel
theorem dX9_is_88 : decode cX9_is 88 = .ok (.aload_n 0, 1) := by decide +kernel
theorem dX9_is_89 : decode cX9_is 89 = .ok (.getfield 37, 3) := by decide +kernel
theorem dX9_is_92 : decode cX9_is 92 = .ok (.lload 6, 2) := by decide +kernel
theorem dX9_is_94 : decode cX9_is 94 = .ok (.lcmp, 1) := by decide +kernel
theorem dX9_is_95 : decode cX9_is 95 = .ok (.ifCond .ne 7, 3) := by decide +kernel
theorem dX9_is_98 : decode cX9_is 98 = .ok (.iconst 1, 1) := by decide +kernel
theorem dX9_is_99 : decode cX9_is 99 = .ok (.goto 4, 3) := by decide +kernel
theorem dX9_is_102 : decode cX9_is 102 = .ok (.iconst 0, 1) := by decide +kernel
theorem dX9_is_103 : decode cX9_is 103 = .ok (.ireturn, 1) := by decide +kernel
theorem dX9_bad_0 : decode cX9_bad 0 = .ok (.aload_n 0, 1) := by decide +kernel
theorem dX9_bad_1 : decode cX9_bad 1 = .ok (.aload_n 0, 1) := by decide +kernel
theorem dX9_bad_2 : decode cX9_bad 2 = .ok (.getfield 27, 3) := by decide +kernel
theorem dX9_bad_5 : decode cX9_bad 5 = .ok (.iconst 1, 1) := by decide +kernel
theorem dX9_bad_6 : decode cX9_bad 6 = .ok (.if_icmp .ne 7, 3) := by decide +kernel
theorem dX9_bad_9 : decode cX9_bad 9 = .ok (.iconst 1, 1) := by decide +kernel
theorem dX9_bad_10 : decode cX9_bad 10 = .ok (.goto 4, 3) := by decide +kernel
theorem dX9_bad_13 : decode cX9_bad 13 = .ok (.iload_n 1, 1) := by decide +kernel
theorem dX9_bad_14 : decode cX9_bad 14 = .ok (.putfield 52, 3) := by decide +kernel
theorem dX9_bad_17 : decode cX9_bad 17 = .ok (.aload_n 0, 1) := by decide +kernel
theorem dX9_bad_18 : decode cX9_bad 18 = .ok (.aload_n 0, 1) := by decide +kernel
theorem dX9_bad_19 : decode cX9_bad 19 = .ok (.getfield 24, 3) := by decide +kernel
theorem dX9_bad_22 : decode cX9_bad 22 = .ok (.putfield 55, 3) := by decide +kernel
theorem dX9_bad_25 : decode cX9_bad 25 = .ok (.iconst 0, 1) := by decide +kernel
theorem dX9_bad_26 : decode cX9_bad 26 = .ok (.ireturn, 1) := by decide +kernel
theorem dX9_init_0 : decode cX9_init 0 = .ok (.aload_n 0, 1) := by decide +kernel
theorem dX9_init_1 : decode cX9_init 1 = .ok (.invokespecial 58, 3) := by decide +kernel
theorem dX9_init_4 : decode cX9_init 4 = .ok (.aload_n 0, 1) := by decide +kernel
theorem dX9_init_5 : decode cX9_init 5 = .ok (.sipush 840, 3) := by decide +kernel
theorem dX9_init_8 : decode cX9_init 8 = .ok (.newarray .int, 2) := by decide +kernel
theorem dX9_init_10 : decode cX9_init 10 = .ok (.putfield 7, 3) := by decide +kernel
theorem dX9_init_13 : decode cX9_init 13 = .ok (.aload_n 0, 1) := by decide +kernel
theorem dX9_init_14 : decode cX9_init 14 = .ok (.sipush 869, 3) := by decide +kernel
theorem dX9_init_17 : decode cX9_init 17 = .ok (.newarray .int, 2) := by decide +kernel
theorem dX9_init_19 : decode cX9_init 19 = .ok (.putfield 64, 3) := by decide +kernel
theorem dX9_init_22 : decode cX9_init 22 = .ok (.aload_n 0, 1) := by decide +kernel
theorem dX9_init_23 : decode cX9_init 23 = .ok (.sipush 869, 3) := by decide +kernel
theorem dX9_init_26 : decode cX9_init 26 = .ok (.newarray .int, 2) := by decide +kernel
theorem dX9_init_28 : decode cX9_init 28 = .ok (.putfield 67, 3) := by decide +kernel
theorem dX9_init_31 : decode cX9_init 31 = .ok (.aload_n 0, 1) := by decide +kernel
theorem dX9_init_32 : decode cX9_init 32 = .ok (.sipush 432, 3) := by decide +kernel
theorem dX9_init_35 : decode cX9_init 35 = .ok (.newarray .int, 2) := by decide +kernel
theorem dX9_init_37 : decode cX9_init 37 = .ok (.putfield 70, 3) := by decide +kernel
theorem dX9_init_40 : decode cX9_init 40 = .ok (.aload_n 0, 1) := by decide +kernel
theorem dX9_init_41 : decode cX9_init 41 = .ok (.bipush 17, 2) := by decide +kernel
theorem dX9_init_43 : decode cX9_init 43 = .ok (.newarray .int, 2) := by decide +kernel
theorem dX9_init_45 : decode cX9_init 45 = .ok (.putfield 73, 3) := by decide +kernel
theorem dX9_init_48 : decode cX9_init 48 = .ok (.aload_n 0, 1) := by decide +kernel
theorem dX9_init_49 : decode cX9_init 49 = .ok (.bipush 17, 2) := by decide +kernel
theorem dX9_init_51 : decode cX9_init 51 = .ok (.newarray .int, 2) := by decide +kernel
theorem dX9_init_53 : decode cX9_init 53 = .ok (.putfield 76, 3) := by decide +kernel
theorem dX9_init_56 : decode cX9_init 56 = .ok (.aload_n 0, 1) := by decide +kernel
theorem dX9_init_57 : decode cX9_init 57 = .ok (.bipush 16, 2) := by decide +kernel
theorem dX9_init_59 : decode cX9_init 59 = .ok (.newarray .int, 2) := by decide +kernel
theorem dX9_init_61 : decode cX9_init 61 = .ok (.putfield 79, 3) := by decide +kernel
theorem dX9_init_64 : decode cX9_init 64 = .ok (.aload_n 0, 1) := by decide +kernel
theorem dX9_init_65 : decode cX9_init 65 = .ok (.bipush 16, 2) := by decide +kernel
theorem dX9_init_67 : decode cX9_init 67 = .ok (.newarray .int, 2) := by decide +kernel
theorem dX9_init_69 : decode cX9_init 69 = .ok (.putfield 82, 3) := by decide +kernel
theorem dX9_init_72 : decode cX9_init 72 = .ok (.aload_n 0, 1) := by decide +kernel
theorem dX9_init_73 : decode cX9_init 73 = .ok (.bipush 16, 2) := by decide +kernel
theorem dX9_init_75 : decode cX9_init 75 = .ok (.newarray .int, 2) := by decide +kernel
theorem dX9_init_77 : decode cX9_init 77 = .ok (.putfield 85, 3) := by decide +kernel
theorem dX9_init_80 : decode cX9_init 80 = .ok (.aload_n 0, 1) := by decide +kernel
theorem dX9_init_81 : decode cX9_init 81 = .ok (.bipush 17, 2) := by decide +kernel
theorem dX9_init_83 : decode cX9_init 83 = .ok (.newarray .int, 2) := by decide +kernel
theorem dX9_init_85 : decode cX9_init 85 = .ok (.putfield 88, 3) := by decide +kernel
theorem dX9_init_88 : decode cX9_init 88 = .ok (.aload_n 0, 1) := by decide +kernel
theorem dX9_init_89 : decode cX9_init 89 = .ok (.sipush 289, 3) := by decide +kernel
theorem dX9_init_92 : decode cX9_init 92 = .ok (.newarray .int, 2) := by decide +kernel
theorem dX9_init_94 : decode cX9_init 94 = .ok (.putfield 91, 3) := by decide +kernel
theorem dX9_init_97 : decode cX9_init 97 = .ok (.aload_n 0, 1) := by decide +kernel
theorem dX9_init_98 : decode cX9_init 98 = .ok (.bipush 17, 2) := by decide +kernel
theorem dX9_init_100 : decode cX9_init 100 = .ok (.newarray .int, 2) := by decide +kernel
theorem dX9_init_102 : decode cX9_init 102 = .ok (.putfield 94, 3) := by decide +kernel
theorem dX9_init_105 : decode cX9_init 105 = .ok (.aload_n 0, 1) := by decide +kernel
theorem dX9_init_106 : decode cX9_init 106 = .ok (.bipush 17, 2) := by decide +kernel
theorem dX9_init_108 : decode cX9_init 108 = .ok (.newarray .int, 2) := by decide +kernel
theorem dX9_init_110 : decode cX9_init 110 = .ok (.putfield 97, 3) := by decide +kernel
theorem dX9_init_113 : decode cX9_init 113 = .ok (.aload_n 0, 1) := by decide +kernel
theorem dX9_init_114 : decode cX9_init 114 = .ok (.bipush 17, 2) := by decide +kernel
theorem dX9_init_116 : decode cX9_init 116 = .ok (.newarray .long, 2) := by decide +kernel
theorem dX9_init_118 : decode cX9_init 118 = .ok (.putfield 100, 3) := by decide +kernel
theorem dX9_init_121 : decode cX9_init 121 = .ok (.aload_n 0, 1) := by decide +kernel
theorem dX9_init_122 : decode cX9_init 122 = .ok (.bipush 17, 2) := by decide +kernel
theorem dX9_init_124 : decode cX9_init 124 = .ok (.newarray .long, 2) := by decide +kernel
theorem dX9_init_126 : decode cX9_init 126 = .ok (.putfield 104, 3) := by decide +kernel
theorem dX9_init_129 : decode cX9_init 129 = .ok (.aload_n 0, 1) := by decide +kernel
theorem dX9_init_130 : decode cX9_init 130 = .ok (.sipush 1000, 3) := by decide +kernel
theorem dX9_init_133 : decode cX9_init 133 = .ok (.newarray .int, 2) := by decide +kernel
theorem dX9_init_135 : decode cX9_init 135 = .ok (.putfield 107, 3) := by decide +kernel
theorem dX9_init_138 : decode cX9_init 138 = .ok (.return_, 1) := by decide +kernel
theorem dX9_told_0 : decode cX9_told 0 = .ok (.aload_n 0, 1) := by decide +kernel
theorem dX9_told_1 : decode cX9_told 1 = .ok (.getfield 27, 3) := by decide +kernel
theorem dX9_told_4 : decode cX9_told 4 = .ok (.iconst 3, 1) := by decide +kernel
theorem dX9_told_5 : decode cX9_told 5 = .ok (.if_icmp .eq 11, 3) := by decide +kernel
theorem dX9_told_8 : decode cX9_told 8 = .ok (.aload_n 0, 1) := by decide +kernel
theorem dX9_told_9 : decode cX9_told 9 = .ok (.iconst 1, 1) := by decide +kernel
theorem dX9_told_10 : decode cX9_told 10 = .ok (.invokevirtual 110, 3) := by decide +kernel
theorem dX9_told_13 : decode cX9_told 13 = .ok (.pop, 1) := by decide +kernel
theorem dX9_told_14 : decode cX9_told 14 = .ok (.iconst (-1), 1) := by decide +kernel
theorem dX9_told_15 : decode cX9_told 15 = .ok (.ireturn, 1) := by decide +kernel
theorem dX9_told_16 : decode cX9_told 16 = .ok (.aload_n 0, 1) := by decide +kernel
theorem dX9_told_17 : decode cX9_told 17 = .ok (.getfield 41, 3) := by decide +kernel
theorem dX9_told_20 : decode cX9_told 20 = .ok (.iload_n 1, 1) := by decide +kernel
theorem dX9_told_21 : decode cX9_told 21 = .ok (.iload_n 2, 1) := by decide +kernel
theorem dX9_told_22 : decode cX9_told 22 = .ok (.invokestatic 113, 3) := by decide +kernel
theorem dX9_told_25 : decode cX9_told 25 = .ok (.ifCond .ne 11, 3) := by decide +kernel
theorem dX9_told_28 : decode cX9_told 28 = .ok (.aload_n 0, 1) := by decide +kernel
theorem dX9_told_29 : decode cX9_told 29 = .ok (.iload_n 3, 1) := by decide +kernel
theorem dX9_told_30 : decode cX9_told 30 = .ok (.invokevirtual 110, 3) := by decide +kernel
theorem dX9_told_33 : decode cX9_told 33 = .ok (.pop, 1) := by decide +kernel
theorem dX9_told_34 : decode cX9_told 34 = .ok (.iconst (-1), 1) := by decide +kernel
theorem dX9_told_35 : decode cX9_told 35 = .ok (.ireturn, 1) := by decide +kernel
theorem dX9_told_36 : decode cX9_told 36 = .ok (.aload_n 0, 1) := by decide +kernel
theorem dX9_told_37 : decode cX9_told 37 = .ok (.getfield 41, 3) := by decide +kernel
theorem dX9_told_40 : decode cX9_told 40 = .ok (.istore 4, 2) := by decide +kernel
theorem dX9_told_42 : decode cX9_told 42 = .ok (.aload_n 0, 1) := by decide +kernel
theorem dX9_told_43 : decode cX9_told 43 = .ok (.invokevirtual 117, 3) := by decide +kernel
theorem dX9_told_46 : decode cX9_told 46 = .ok (.iload 4, 2) := by decide +kernel
theorem dX9_told_48 : decode cX9_told 48 = .ok (.ireturn, 1) := by decide +kernel
theorem dX9_toldPlace_0 : decode cX9_toldPlace 0 = .ok (.aload_n 0, 1) := by decide +kernel
theorem dX9_toldPlace_1 : decode cX9_toldPlace 1 = .ok (.iconst 0, 1) := by decide +kernel
theorem dX9_toldPlace_2 : decode cX9_toldPlace 2 = .ok (.aload_n 0, 1) := by decide +kernel
theorem dX9_toldPlace_3 : decode cX9_toldPlace 3 = .ok (.getfield 67, 3) := by decide +kernel
theorem dX9_toldPlace_6 : decode cX9_toldPlace 6 = .ok (.bipush 37, 2) := by decide +kernel
theorem dX9_toldPlace_8 : decode cX9_toldPlace 8 = .ok (.iaload, 1) := by decide +kernel
theorem dX9_toldPlace_9 : decode cX9_toldPlace 9 = .ok (.iconst 1, 1) := by decide +kernel
theorem dX9_toldPlace_10 : decode cX9_toldPlace 10 = .ok (.isub, 1) := by decide +kernel
theorem dX9_toldPlace_11 : decode cX9_toldPlace 11 = .ok (.iconst 3, 1) := by decide +kernel
theorem dX9_toldPlace_12 : decode cX9_toldPlace 12 = .ok (.invokevirtual 120, 3) := by decide +kernel
theorem dX9_toldPlace_15 : decode cX9_toldPlace 15 = .ok (.ireturn, 1) := by decide +kernel
theorem dX9_readDesk_0 : decode cX9_readDesk 0 = .ok (.aload_n 0, 1) := by decide +kernel
theorem dX9_readDesk_1 : decode cX9_readDesk 1 = .ok (.invokevirtual 117, 3) := by decide +kernel
theorem dX9_readDesk_4 : decode cX9_readDesk 4 = .ok (.aload_n 0, 1) := by decide +kernel
theorem dX9_readDesk_5 : decode cX9_readDesk 5 = .ok (.iconst 0, 1) := by decide +kernel
theorem dX9_readDesk_6 : decode cX9_readDesk 6 = .ok (.sipush 999, 3) := by decide +kernel
theorem dX9_readDesk_9 : decode cX9_readDesk 9 = .ok (.iconst 2, 1) := by decide +kernel
theorem dX9_readDesk_10 : decode cX9_readDesk 10 = .ok (.invokevirtual 120, 3) := by decide +kernel
theorem dX9_readDesk_13 : decode cX9_readDesk 13 = .ok (.istore_n 1, 1) := by decide +kernel
theorem dX9_readDesk_14 : decode cX9_readDesk 14 = .ok (.aload_n 0, 1) := by decide +kernel
theorem dX9_readDesk_15 : decode cX9_readDesk 15 = .ok (.getfield 67, 3) := by decide +kernel
theorem dX9_readDesk_18 : decode cX9_readDesk 18 = .ok (.bipush 36, 2) := by decide +kernel
theorem dX9_readDesk_20 : decode cX9_readDesk 20 = .ok (.iload_n 1, 1) := by decide +kernel
theorem dX9_readDesk_21 : decode cX9_readDesk 21 = .ok (.iastore, 1) := by decide +kernel
theorem dX9_readDesk_22 : decode cX9_readDesk 22 = .ok (.iload_n 1, 1) := by decide +kernel
theorem dX9_readDesk_23 : decode cX9_readDesk 23 = .ok (.iconst (-1), 1) := by decide +kernel
theorem dX9_readDesk_24 : decode cX9_readDesk 24 = .ok (.if_icmp .eq 7, 3) := by decide +kernel
theorem dX9_readDesk_27 : decode cX9_readDesk 27 = .ok (.iconst 1, 1) := by decide +kernel
theorem dX9_readDesk_28 : decode cX9_readDesk 28 = .ok (.goto 4, 3) := by decide +kernel
theorem dX9_readDesk_31 : decode cX9_readDesk 31 = .ok (.iconst 0, 1) := by decide +kernel
theorem dX9_readDesk_32 : decode cX9_readDesk 32 = .ok (.ireturn, 1) := by decide +kernel
theorem dX9_readPlace_0 : decode cX9_readPlace 0 = .ok (.aload_n 0, 1) := by decide +kernel
theorem dX9_readPlace_1 : decode cX9_readPlace 1 = .ok (.getfield 67, 3) := by decide +kernel
theorem dX9_readPlace_4 : decode cX9_readPlace 4 = .ok (.bipush 37, 2) := by decide +kernel
theorem dX9_readPlace_6 : decode cX9_readPlace 6 = .ok (.iaload, 1) := by decide +kernel
theorem dX9_readPlace_7 : decode cX9_readPlace 7 = .ok (.istore_n 1, 1) := by decide +kernel
theorem dX9_readPlace_8 : decode cX9_readPlace 8 = .ok (.iload_n 1, 1) := by decide +kernel
theorem dX9_readPlace_9 : decode cX9_readPlace 9 = .ok (.bipush 12, 2) := by decide +kernel
theorem dX9_readPlace_11 : decode cX9_readPlace 11 = .ok (.if_icmp .ne 9, 3) := by decide +kernel
theorem dX9_readPlace_14 : decode cX9_readPlace 14 = .ok (.aload_n 0, 1) := by decide +kernel
theorem dX9_readPlace_15 : decode cX9_readPlace 15 = .ok (.iconst 4, 1) := by decide +kernel
theorem dX9_readPlace_16 : decode cX9_readPlace 16 = .ok (.invokevirtual 110, 3) := by decide +kernel
theorem dX9_readPlace_19 : decode cX9_readPlace 19 = .ok (.ireturn, 1) := by decide +kernel
theorem dX9_readPlace_20 : decode cX9_readPlace 20 = .ok (.aload_n 0, 1) := by decide +kernel
theorem dX9_readPlace_21 : decode cX9_readPlace 21 = .ok (.invokevirtual 117, 3) := by decide +kernel
theorem dX9_readPlace_24 : decode cX9_readPlace 24 = .ok (.aload_n 0, 1) := by decide +kernel
theorem dX9_readPlace_25 : decode cX9_readPlace 25 = .ok (.iconst 0, 1) := by decide +kernel
theorem dX9_readPlace_26 : decode cX9_readPlace 26 = .ok (.bipush 99, 2) := by decide +kernel
theorem dX9_readPlace_28 : decode cX9_readPlace 28 = .ok (.iconst 2, 1) := by decide +kernel
theorem dX9_readPlace_29 : decode cX9_readPlace 29 = .ok (.invokevirtual 120, 3) := by decide +kernel
theorem dX9_readPlace_32 : decode cX9_readPlace 32 = .ok (.istore_n 2, 1) := by decide +kernel
theorem dX9_readPlace_33 : decode cX9_readPlace 33 = .ok (.iload_n 2, 1) := by decide +kernel
theorem dX9_readPlace_34 : decode cX9_readPlace 34 = .ok (.iconst (-1), 1) := by decide +kernel
theorem dX9_readPlace_35 : decode cX9_readPlace 35 = .ok (.if_icmp .ne 7, 3) := by decide +kernel
theorem dX9_readPlace_38 : decode cX9_readPlace 38 = .ok (.iconst (-1), 1) := by decide +kernel
theorem dX9_readPlace_39 : decode cX9_readPlace 39 = .ok (.goto 11, 3) := by decide +kernel
theorem dX9_readPlace_42 : decode cX9_readPlace 42 = .ok (.aload_n 0, 1) := by decide +kernel
theorem dX9_readPlace_43 : decode cX9_readPlace 43 = .ok (.iconst 0, 1) := by decide +kernel
theorem dX9_readPlace_44 : decode cX9_readPlace 44 = .ok (.bipush 99, 2) := by decide +kernel
theorem dX9_readPlace_46 : decode cX9_readPlace 46 = .ok (.iconst 2, 1) := by decide +kernel
theorem dX9_readPlace_47 : decode cX9_readPlace 47 = .ok (.invokevirtual 120, 3) := by decide +kernel
theorem dX9_readPlace_50 : decode cX9_readPlace 50 = .ok (.istore_n 3, 1) := by decide +kernel
theorem dX9_readPlace_51 : decode cX9_readPlace 51 = .ok (.iload_n 3, 1) := by decide +kernel
theorem dX9_readPlace_52 : decode cX9_readPlace 52 = .ok (.iconst (-1), 1) := by decide +kernel
theorem dX9_readPlace_53 : decode cX9_readPlace 53 = .ok (.if_icmp .ne 5, 3) := by decide +kernel
theorem dX9_readPlace_56 : decode cX9_readPlace 56 = .ok (.iconst 0, 1) := by decide +kernel
theorem dX9_readPlace_57 : decode cX9_readPlace 57 = .ok (.ireturn, 1) := by decide +kernel
theorem dX9_readPlace_58 : decode cX9_readPlace 58 = .ok (.aload_n 0, 1) := by decide +kernel
theorem dX9_readPlace_59 : decode cX9_readPlace 59 = .ok (.getfield 67, 3) := by decide +kernel
theorem dX9_readPlace_62 : decode cX9_readPlace 62 = .ok (.bipush 41, 2) := by decide +kernel
theorem dX9_readPlace_64 : decode cX9_readPlace 64 = .ok (.iload_n 1, 1) := by decide +kernel
theorem dX9_readPlace_65 : decode cX9_readPlace 65 = .ok (.iadd, 1) := by decide +kernel
theorem dX9_readPlace_66 : decode cX9_readPlace 66 = .ok (.iload_n 2, 1) := by decide +kernel
theorem dX9_readPlace_67 : decode cX9_readPlace 67 = .ok (.iastore, 1) := by decide +kernel
theorem dX9_readPlace_68 : decode cX9_readPlace 68 = .ok (.aload_n 0, 1) := by decide +kernel
theorem dX9_readPlace_69 : decode cX9_readPlace 69 = .ok (.getfield 67, 3) := by decide +kernel
theorem dX9_readPlace_72 : decode cX9_readPlace 72 = .ok (.bipush 53, 2) := by decide +kernel
theorem dX9_readPlace_74 : decode cX9_readPlace 74 = .ok (.iload_n 1, 1) := by decide +kernel
theorem dX9_readPlace_75 : decode cX9_readPlace 75 = .ok (.iadd, 1) := by decide +kernel
theorem dX9_readPlace_76 : decode cX9_readPlace 76 = .ok (.iload_n 3, 1) := by decide +kernel
theorem dX9_readPlace_77 : decode cX9_readPlace 77 = .ok (.iastore, 1) := by decide +kernel
theorem dX9_readPlace_78 : decode cX9_readPlace 78 = .ok (.aload_n 0, 1) := by decide +kernel
theorem dX9_readPlace_79 : decode cX9_readPlace 79 = .ok (.getfield 67, 3) := by decide +kernel
theorem dX9_readPlace_82 : decode cX9_readPlace 82 = .ok (.bipush 37, 2) := by decide +kernel
theorem dX9_readPlace_84 : decode cX9_readPlace 84 = .ok (.dup2, 1) := by decide +kernel
theorem dX9_readPlace_85 : decode cX9_readPlace 85 = .ok (.iaload, 1) := by decide +kernel
theorem dX9_readPlace_86 : decode cX9_readPlace 86 = .ok (.iconst 1, 1) := by decide +kernel
theorem dX9_readPlace_87 : decode cX9_readPlace 87 = .ok (.iadd, 1) := by decide +kernel
theorem dX9_readPlace_88 : decode cX9_readPlace 88 = .ok (.iastore, 1) := by decide +kernel
theorem dX9_readPlace_89 : decode cX9_readPlace 89 = .ok (.iconst 1, 1) := by decide +kernel
theorem dX9_readPlace_90 : decode cX9_readPlace 90 = .ok (.ireturn, 1) := by decide +kernel
theorem dX9_readTruck_0 : decode cX9_readTruck 0 = .ok (.aload_n 0, 1) := by decide +kernel
theorem dX9_readTruck_1 : decode cX9_readTruck 1 = .ok (.getfield 67, 3) := by decide +kernel
theorem dX9_readTruck_4 : decode cX9_readTruck 4 = .ok (.bipush 38, 2) := by decide +kernel
theorem dX9_readTruck_6 : decode cX9_readTruck 6 = .ok (.iaload, 1) := by decide +kernel
theorem dX9_readTruck_7 : decode cX9_readTruck 7 = .ok (.istore_n 1, 1) := by decide +kernel
theorem dX9_readTruck_8 : decode cX9_readTruck 8 = .ok (.iload_n 1, 1) := by decide +kernel
theorem dX9_readTruck_9 : decode cX9_readTruck 9 = .ok (.iconst 4, 1) := by decide +kernel
theorem dX9_readTruck_10 : decode cX9_readTruck 10 = .ok (.if_icmp .ne 9, 3) := by decide +kernel
theorem dX9_readTruck_13 : decode cX9_readTruck 13 = .ok (.aload_n 0, 1) := by decide +kernel
theorem dX9_readTruck_14 : decode cX9_readTruck 14 = .ok (.iconst 4, 1) := by decide +kernel
theorem dX9_readTruck_15 : decode cX9_readTruck 15 = .ok (.invokevirtual 110, 3) := by decide +kernel
theorem dX9_readTruck_18 : decode cX9_readTruck 18 = .ok (.ireturn, 1) := by decide +kernel
theorem dX9_readTruck_19 : decode cX9_readTruck 19 = .ok (.aload_n 0, 1) := by decide +kernel
theorem dX9_readTruck_20 : decode cX9_readTruck 20 = .ok (.invokevirtual 117, 3) := by decide +kernel
theorem dX9_readTruck_23 : decode cX9_readTruck 23 = .ok (.aload_n 0, 1) := by decide +kernel
theorem dX9_readTruck_24 : decode cX9_readTruck 24 = .ok (.iconst 0, 1) := by decide +kernel
theorem dX9_readTruck_25 : decode cX9_readTruck 25 = .ok (.sipush 999, 3) := by decide +kernel
theorem dX9_readTruck_28 : decode cX9_readTruck 28 = .ok (.iconst 2, 1) := by decide +kernel
theorem dX9_readTruck_29 : decode cX9_readTruck 29 = .ok (.invokevirtual 120, 3) := by decide +kernel
theorem dX9_readTruck_32 : decode cX9_readTruck 32 = .ok (.istore_n 2, 1) := by decide +kernel
theorem dX9_readTruck_33 : decode cX9_readTruck 33 = .ok (.iload_n 2, 1) := by decide +kernel
theorem dX9_readTruck_34 : decode cX9_readTruck 34 = .ok (.iconst (-1), 1) := by decide +kernel
theorem dX9_readTruck_35 : decode cX9_readTruck 35 = .ok (.if_icmp .ne 7, 3) := by decide +kernel
theorem dX9_readTruck_38 : decode cX9_readTruck 38 = .ok (.iconst (-1), 1) := by decide +kernel
theorem dX9_readTruck_39 : decode cX9_readTruck 39 = .ok (.goto 12, 3) := by decide +kernel
theorem dX9_readTruck_42 : decode cX9_readTruck 42 = .ok (.aload_n 0, 1) := by decide +kernel
theorem dX9_readTruck_43 : decode cX9_readTruck 43 = .ok (.iconst 0, 1) := by decide +kernel
theorem dX9_readTruck_44 : decode cX9_readTruck 44 = .ok (.sipush 9999, 3) := by decide +kernel
theorem dX9_readTruck_47 : decode cX9_readTruck 47 = .ok (.iconst 2, 1) := by decide +kernel
theorem dX9_readTruck_48 : decode cX9_readTruck 48 = .ok (.invokevirtual 120, 3) := by decide +kernel
theorem dX9_readTruck_51 : decode cX9_readTruck 51 = .ok (.istore_n 3, 1) := by decide +kernel
theorem dX9_readTruck_52 : decode cX9_readTruck 52 = .ok (.iload_n 3, 1) := by decide +kernel
theorem dX9_readTruck_53 : decode cX9_readTruck 53 = .ok (.iconst (-1), 1) := by decide +kernel
theorem dX9_readTruck_54 : decode cX9_readTruck 54 = .ok (.if_icmp .ne 5, 3) := by decide +kernel
theorem dX9_readTruck_57 : decode cX9_readTruck 57 = .ok (.iconst 0, 1) := by decide +kernel
theorem dX9_readTruck_58 : decode cX9_readTruck 58 = .ok (.ireturn, 1) := by decide +kernel
theorem dX9_readTruck_59 : decode cX9_readTruck 59 = .ok (.aload_n 0, 1) := by decide +kernel
theorem dX9_readTruck_60 : decode cX9_readTruck 60 = .ok (.getfield 67, 3) := by decide +kernel
theorem dX9_readTruck_63 : decode cX9_readTruck 63 = .ok (.bipush 65, 2) := by decide +kernel
theorem dX9_readTruck_65 : decode cX9_readTruck 65 = .ok (.iload_n 1, 1) := by decide +kernel
theorem dX9_readTruck_66 : decode cX9_readTruck 66 = .ok (.iadd, 1) := by decide +kernel
theorem dX9_readTruck_67 : decode cX9_readTruck 67 = .ok (.iload_n 2, 1) := by decide +kernel
theorem dX9_readTruck_68 : decode cX9_readTruck 68 = .ok (.iastore, 1) := by decide +kernel
theorem dX9_readTruck_69 : decode cX9_readTruck 69 = .ok (.aload_n 0, 1) := by decide +kernel
theorem dX9_readTruck_70 : decode cX9_readTruck 70 = .ok (.getfield 67, 3) := by decide +kernel
theorem dX9_readTruck_73 : decode cX9_readTruck 73 = .ok (.iconst 0, 1) := by decide +kernel
theorem dX9_readTruck_74 : decode cX9_readTruck 74 = .ok (.iload_n 1, 1) := by decide +kernel
theorem dX9_readTruck_75 : decode cX9_readTruck 75 = .ok (.iadd, 1) := by decide +kernel
theorem dX9_readTruck_76 : decode cX9_readTruck 76 = .ok (.iload_n 3, 1) := by decide +kernel
theorem dX9_readTruck_77 : decode cX9_readTruck 77 = .ok (.iastore, 1) := by decide +kernel
theorem dX9_readTruck_78 : decode cX9_readTruck 78 = .ok (.aload_n 0, 1) := by decide +kernel
theorem dX9_readTruck_79 : decode cX9_readTruck 79 = .ok (.getfield 67, 3) := by decide +kernel
theorem dX9_readTruck_82 : decode cX9_readTruck 82 = .ok (.bipush 38, 2) := by decide +kernel
theorem dX9_readTruck_84 : decode cX9_readTruck 84 = .ok (.dup2, 1) := by decide +kernel
theorem dX9_readTruck_85 : decode cX9_readTruck 85 = .ok (.iaload, 1) := by decide +kernel
theorem dX9_readTruck_86 : decode cX9_readTruck 86 = .ok (.iconst 1, 1) := by decide +kernel
theorem dX9_readTruck_87 : decode cX9_readTruck 87 = .ok (.iadd, 1) := by decide +kernel
theorem dX9_readTruck_88 : decode cX9_readTruck 88 = .ok (.iastore, 1) := by decide +kernel
theorem dX9_readTruck_89 : decode cX9_readTruck 89 = .ok (.iconst 1, 1) := by decide +kernel
theorem dX9_readTruck_90 : decode cX9_readTruck 90 = .ok (.ireturn, 1) := by decide +kernel
theorem dX9_readLoad_0 : decode cX9_readLoad 0 = .ok (.aload_n 0, 1) := by decide +kernel
theorem dX9_readLoad_1 : decode cX9_readLoad 1 = .ok (.getfield 67, 3) := by decide +kernel
theorem dX9_readLoad_4 : decode cX9_readLoad 4 = .ok (.bipush 39, 2) := by decide +kernel
theorem dX9_readLoad_6 : decode cX9_readLoad 6 = .ok (.iaload, 1) := by decide +kernel
theorem dX9_readLoad_7 : decode cX9_readLoad 7 = .ok (.istore_n 1, 1) := by decide +kernel
theorem dX9_readLoad_8 : decode cX9_readLoad 8 = .ok (.iload_n 1, 1) := by decide +kernel
theorem dX9_readLoad_9 : decode cX9_readLoad 9 = .ok (.bipush 16, 2) := by decide +kernel
theorem dX9_readLoad_11 : decode cX9_readLoad 11 = .ok (.if_icmp .ne 9, 3) := by decide +kernel
theorem dX9_readLoad_14 : decode cX9_readLoad 14 = .ok (.aload_n 0, 1) := by decide +kernel
theorem dX9_readLoad_15 : decode cX9_readLoad 15 = .ok (.iconst 4, 1) := by decide +kernel
theorem dX9_readLoad_16 : decode cX9_readLoad 16 = .ok (.invokevirtual 110, 3) := by decide +kernel
theorem dX9_readLoad_19 : decode cX9_readLoad 19 = .ok (.ireturn, 1) := by decide +kernel
theorem dX9_readLoad_20 : decode cX9_readLoad 20 = .ok (.aload_n 0, 1) := by decide +kernel
theorem dX9_readLoad_21 : decode cX9_readLoad 21 = .ok (.invokevirtual 117, 3) := by decide +kernel
theorem dX9_readLoad_24 : decode cX9_readLoad 24 = .ok (.aload_n 0, 1) := by decide +kernel
theorem dX9_readLoad_25 : decode cX9_readLoad 25 = .ok (.iconst 1, 1) := by decide +kernel
theorem dX9_readLoad_26 : decode cX9_readLoad 26 = .ok (.bipush 99, 2) := by decide +kernel
theorem dX9_readLoad_28 : decode cX9_readLoad 28 = .ok (.iconst 2, 1) := by decide +kernel
theorem dX9_readLoad_29 : decode cX9_readLoad 29 = .ok (.invokevirtual 120, 3) := by decide +kernel
theorem dX9_readLoad_32 : decode cX9_readLoad 32 = .ok (.istore_n 2, 1) := by decide +kernel
theorem dX9_readLoad_33 : decode cX9_readLoad 33 = .ok (.iload_n 2, 1) := by decide +kernel
theorem dX9_readLoad_34 : decode cX9_readLoad 34 = .ok (.iconst (-1), 1) := by decide +kernel
theorem dX9_readLoad_35 : decode cX9_readLoad 35 = .ok (.if_icmp .ne 7, 3) := by decide +kernel
theorem dX9_readLoad_38 : decode cX9_readLoad 38 = .ok (.iconst (-1), 1) := by decide +kernel
theorem dX9_readLoad_39 : decode cX9_readLoad 39 = .ok (.goto 7, 3) := by decide +kernel
theorem dX9_readLoad_42 : decode cX9_readLoad 42 = .ok (.aload_n 0, 1) := by decide +kernel
theorem dX9_readLoad_43 : decode cX9_readLoad 43 = .ok (.invokevirtual 124, 3) := by decide +kernel
theorem dX9_readLoad_46 : decode cX9_readLoad 46 = .ok (.istore_n 3, 1) := by decide +kernel
theorem dX9_readLoad_47 : decode cX9_readLoad 47 = .ok (.iload_n 3, 1) := by decide +kernel
theorem dX9_readLoad_48 : decode cX9_readLoad 48 = .ok (.iconst (-1), 1) := by decide +kernel
theorem dX9_readLoad_49 : decode cX9_readLoad 49 = .ok (.if_icmp .ne 5, 3) := by decide +kernel
theorem dX9_readLoad_52 : decode cX9_readLoad 52 = .ok (.iconst 0, 1) := by decide +kernel
theorem dX9_readLoad_53 : decode cX9_readLoad 53 = .ok (.ireturn, 1) := by decide +kernel
theorem dX9_readLoad_54 : decode cX9_readLoad 54 = .ok (.aload_n 0, 1) := by decide +kernel
theorem dX9_readLoad_55 : decode cX9_readLoad 55 = .ok (.getfield 27, 3) := by decide +kernel
theorem dX9_readLoad_58 : decode cX9_readLoad 58 = .ok (.iconst 3, 1) := by decide +kernel
theorem dX9_readLoad_59 : decode cX9_readLoad 59 = .ok (.if_icmp .ne 17, 3) := by decide +kernel
theorem dX9_readLoad_62 : decode cX9_readLoad 62 = .ok (.aload_n 0, 1) := by decide +kernel
theorem dX9_readLoad_63 : decode cX9_readLoad 63 = .ok (.getfield 41, 3) := by decide +kernel
theorem dX9_readLoad_66 : decode cX9_readLoad 66 = .ok (.iload_n 3, 1) := by decide +kernel
theorem dX9_readLoad_67 : decode cX9_readLoad 67 = .ok (.if_icmp .ne 9, 3) := by decide +kernel
theorem dX9_readLoad_70 : decode cX9_readLoad 70 = .ok (.aload_n 0, 1) := by decide +kernel
theorem dX9_readLoad_71 : decode cX9_readLoad 71 = .ok (.iconst 3, 1) := by decide +kernel
theorem dX9_readLoad_72 : decode cX9_readLoad 72 = .ok (.invokevirtual 110, 3) := by decide +kernel
theorem dX9_readLoad_75 : decode cX9_readLoad 75 = .ok (.ireturn, 1) := by decide +kernel
theorem dX9_readLoad_76 : decode cX9_readLoad 76 = .ok (.aload_n 0, 1) := by decide +kernel
theorem dX9_readLoad_77 : decode cX9_readLoad 77 = .ok (.invokevirtual 124, 3) := by decide +kernel
theorem dX9_readLoad_80 : decode cX9_readLoad 80 = .ok (.istore 4, 2) := by decide +kernel
theorem dX9_readLoad_82 : decode cX9_readLoad 82 = .ok (.iload 4, 2) := by decide +kernel
theorem dX9_readLoad_84 : decode cX9_readLoad 84 = .ok (.iconst (-1), 1) := by decide +kernel
theorem dX9_readLoad_85 : decode cX9_readLoad 85 = .ok (.if_icmp .ne 5, 3) := by decide +kernel
theorem dX9_readLoad_88 : decode cX9_readLoad 88 = .ok (.iconst 0, 1) := by decide +kernel
theorem dX9_readLoad_89 : decode cX9_readLoad 89 = .ok (.ireturn, 1) := by decide +kernel
theorem dX9_readLoad_90 : decode cX9_readLoad 90 = .ok (.aload_n 0, 1) := by decide +kernel
theorem dX9_readLoad_91 : decode cX9_readLoad 91 = .ok (.getfield 67, 3) := by decide +kernel
theorem dX9_readLoad_94 : decode cX9_readLoad 94 = .ok (.bipush 20, 2) := by decide +kernel
theorem dX9_readLoad_96 : decode cX9_readLoad 96 = .ok (.iload_n 1, 1) := by decide +kernel
theorem dX9_readLoad_97 : decode cX9_readLoad 97 = .ok (.iadd, 1) := by decide +kernel
theorem dX9_readLoad_98 : decode cX9_readLoad 98 = .ok (.iload_n 2, 1) := by decide +kernel
theorem dX9_readLoad_99 : decode cX9_readLoad 99 = .ok (.iastore, 1) := by decide +kernel
theorem dX9_readLoad_100 : decode cX9_readLoad 100 = .ok (.aload_n 0, 1) := by decide +kernel
theorem dX9_readLoad_101 : decode cX9_readLoad 101 = .ok (.getfield 67, 3) := by decide +kernel
theorem dX9_readLoad_104 : decode cX9_readLoad 104 = .ok (.bipush 69, 2) := by decide +kernel
theorem dX9_readLoad_106 : decode cX9_readLoad 106 = .ok (.iload_n 1, 1) := by decide +kernel
theorem dX9_readLoad_107 : decode cX9_readLoad 107 = .ok (.iadd, 1) := by decide +kernel
theorem dX9_readLoad_108 : decode cX9_readLoad 108 = .ok (.iload_n 3, 1) := by decide +kernel
theorem dX9_readLoad_109 : decode cX9_readLoad 109 = .ok (.iastore, 1) := by decide +kernel
theorem dX9_readLoad_110 : decode cX9_readLoad 110 = .ok (.aload_n 0, 1) := by decide +kernel
theorem dX9_readLoad_111 : decode cX9_readLoad 111 = .ok (.getfield 67, 3) := by decide +kernel
theorem dX9_readLoad_114 : decode cX9_readLoad 114 = .ok (.bipush 85, 2) := by decide +kernel
theorem dX9_readLoad_116 : decode cX9_readLoad 116 = .ok (.iload_n 1, 1) := by decide +kernel
theorem dX9_readLoad_117 : decode cX9_readLoad 117 = .ok (.iadd, 1) := by decide +kernel
theorem dX9_readLoad_118 : decode cX9_readLoad 118 = .ok (.iload 4, 2) := by decide +kernel
theorem dX9_readLoad_120 : decode cX9_readLoad 120 = .ok (.iastore, 1) := by decide +kernel
theorem dX9_readLoad_121 : decode cX9_readLoad 121 = .ok (.aload_n 0, 1) := by decide +kernel
theorem dX9_readLoad_122 : decode cX9_readLoad 122 = .ok (.getfield 67, 3) := by decide +kernel
theorem dX9_readLoad_125 : decode cX9_readLoad 125 = .ok (.bipush 39, 2) := by decide +kernel
theorem dX9_readLoad_127 : decode cX9_readLoad 127 = .ok (.dup2, 1) := by decide +kernel
theorem dX9_readLoad_128 : decode cX9_readLoad 128 = .ok (.iaload, 1) := by decide +kernel
theorem dX9_readLoad_129 : decode cX9_readLoad 129 = .ok (.iconst 1, 1) := by decide +kernel
theorem dX9_readLoad_130 : decode cX9_readLoad 130 = .ok (.iadd, 1) := by decide +kernel
theorem dX9_readLoad_131 : decode cX9_readLoad 131 = .ok (.iastore, 1) := by decide +kernel
theorem dX9_readLoad_132 : decode cX9_readLoad 132 = .ok (.iconst 1, 1) := by decide +kernel
theorem dX9_readLoad_133 : decode cX9_readLoad 133 = .ok (.ireturn, 1) := by decide +kernel
theorem dX9_directOf_0 : decode cX9_directOf 0 = .ok (.aload_n 0, 1) := by decide +kernel
theorem dX9_directOf_1 : decode cX9_directOf 1 = .ok (.bipush 41, 2) := by decide +kernel
theorem dX9_directOf_3 : decode cX9_directOf 3 = .ok (.iload_n 1, 1) := by decide +kernel
theorem dX9_directOf_4 : decode cX9_directOf 4 = .ok (.iadd, 1) := by decide +kernel
theorem dX9_directOf_5 : decode cX9_directOf 5 = .ok (.iaload, 1) := by decide +kernel
theorem dX9_directOf_6 : decode cX9_directOf 6 = .ok (.aload_n 0, 1) := by decide +kernel
theorem dX9_directOf_7 : decode cX9_directOf 7 = .ok (.bipush 41, 2) := by decide +kernel
theorem dX9_directOf_9 : decode cX9_directOf 9 = .ok (.iload_n 2, 1) := by decide +kernel
theorem dX9_directOf_10 : decode cX9_directOf 10 = .ok (.iadd, 1) := by decide +kernel
theorem dX9_directOf_11 : decode cX9_directOf 11 = .ok (.iaload, 1) := by decide +kernel
theorem dX9_directOf_12 : decode cX9_directOf 12 = .ok (.isub, 1) := by decide +kernel
theorem dX9_directOf_13 : decode cX9_directOf 13 = .ok (.istore_n 3, 1) := by decide +kernel
theorem dX9_directOf_14 : decode cX9_directOf 14 = .ok (.aload_n 0, 1) := by decide +kernel
theorem dX9_directOf_15 : decode cX9_directOf 15 = .ok (.bipush 53, 2) := by decide +kernel
theorem dX9_directOf_17 : decode cX9_directOf 17 = .ok (.iload_n 1, 1) := by decide +kernel
theorem dX9_directOf_18 : decode cX9_directOf 18 = .ok (.iadd, 1) := by decide +kernel
theorem dX9_directOf_19 : decode cX9_directOf 19 = .ok (.iaload, 1) := by decide +kernel
theorem dX9_directOf_20 : decode cX9_directOf 20 = .ok (.aload_n 0, 1) := by decide +kernel
theorem dX9_directOf_21 : decode cX9_directOf 21 = .ok (.bipush 53, 2) := by decide +kernel
theorem dX9_directOf_23 : decode cX9_directOf 23 = .ok (.iload_n 2, 1) := by decide +kernel
theorem dX9_directOf_24 : decode cX9_directOf 24 = .ok (.iadd, 1) := by decide +kernel
theorem dX9_directOf_25 : decode cX9_directOf 25 = .ok (.iaload, 1) := by decide +kernel
theorem dX9_directOf_26 : decode cX9_directOf 26 = .ok (.isub, 1) := by decide +kernel
theorem dX9_directOf_27 : decode cX9_directOf 27 = .ok (.istore 4, 2) := by decide +kernel
theorem dX9_directOf_29 : decode cX9_directOf 29 = .ok (.iload_n 3, 1) := by decide +kernel
theorem dX9_directOf_30 : decode cX9_directOf 30 = .ok (.ifCond .ge 8, 3) := by decide +kernel
theorem dX9_directOf_33 : decode cX9_directOf 33 = .ok (.iload_n 3, 1) := by decide +kernel
theorem dX9_directOf_34 : decode cX9_directOf 34 = .ok (.ineg, 1) := by decide +kernel
theorem dX9_directOf_35 : decode cX9_directOf 35 = .ok (.goto 4, 3) := by decide +kernel
theorem dX9_directOf_38 : decode cX9_directOf 38 = .ok (.iload_n 3, 1) := by decide +kernel
theorem dX9_directOf_39 : decode cX9_directOf 39 = .ok (.iload 4, 2) := by decide +kernel
theorem dX9_directOf_41 : decode cX9_directOf 41 = .ok (.ifCond .ge 9, 3) := by decide +kernel
theorem dX9_directOf_44 : decode cX9_directOf 44 = .ok (.iload 4, 2) := by decide +kernel
theorem dX9_directOf_46 : decode cX9_directOf 46 = .ok (.ineg, 1) := by decide +kernel
theorem dX9_directOf_47 : decode cX9_directOf 47 = .ok (.goto 5, 3) := by decide +kernel
theorem dX9_directOf_50 : decode cX9_directOf 50 = .ok (.iload 4, 2) := by decide +kernel
theorem dX9_directOf_52 : decode cX9_directOf 52 = .ok (.iadd, 1) := by decide +kernel
theorem dX9_directOf_53 : decode cX9_directOf 53 = .ok (.ireturn, 1) := by decide +kernel
theorem dX9_goesTo_0 : decode cX9_goesTo 0 = .ok (.aload_n 0, 1) := by decide +kernel
theorem dX9_goesTo_1 : decode cX9_goesTo 1 = .ok (.getfield 67, 3) := by decide +kernel
theorem dX9_goesTo_4 : decode cX9_goesTo 4 = .ok (.iload_n 1, 1) := by decide +kernel
theorem dX9_goesTo_5 : decode cX9_goesTo 5 = .ok (.iconst 4, 1) := by decide +kernel
theorem dX9_goesTo_6 : decode cX9_goesTo 6 = .ok (.iadd, 1) := by decide +kernel
theorem dX9_goesTo_7 : decode cX9_goesTo 7 = .ok (.iaload, 1) := by decide +kernel
theorem dX9_goesTo_8 : decode cX9_goesTo 8 = .ok (.istore 4, 2) := by decide +kernel
theorem dX9_goesTo_10 : decode cX9_goesTo 10 = .ok (.aload_n 0, 1) := by decide +kernel
theorem dX9_goesTo_11 : decode cX9_goesTo 11 = .ok (.getfield 67, 3) := by decide +kernel
theorem dX9_goesTo_14 : decode cX9_goesTo 14 = .ok (.iload 4, 2) := by decide +kernel
theorem dX9_goesTo_16 : decode cX9_goesTo 16 = .ok (.iload_n 2, 1) := by decide +kernel
theorem dX9_goesTo_17 : decode cX9_goesTo 17 = .ok (.invokestatic 128, 3) := by decide +kernel
theorem dX9_goesTo_20 : decode cX9_goesTo 20 = .ok (.istore 5, 2) := by decide +kernel
theorem dX9_goesTo_22 : decode cX9_goesTo 22 = .ok (.aload_n 0, 1) := by decide +kernel
theorem dX9_goesTo_23 : decode cX9_goesTo 23 = .ok (.getfield 67, 3) := by decide +kernel
theorem dX9_goesTo_26 : decode cX9_goesTo 26 = .ok (.iload_n 1, 1) := by decide +kernel
theorem dX9_goesTo_27 : decode cX9_goesTo 27 = .ok (.iconst 1, 1) := by decide +kernel
theorem dX9_goesTo_28 : decode cX9_goesTo 28 = .ok (.iadd, 1) := by decide +kernel
theorem dX9_goesTo_29 : decode cX9_goesTo 29 = .ok (.dup2, 1) := by decide +kernel
theorem dX9_goesTo_30 : decode cX9_goesTo 30 = .ok (.iaload, 1) := by decide +kernel
theorem dX9_goesTo_31 : decode cX9_goesTo 31 = .ok (.iload 5, 2) := by decide +kernel
theorem dX9_goesTo_33 : decode cX9_goesTo 33 = .ok (.iadd, 1) := by decide +kernel
theorem dX9_goesTo_34 : decode cX9_goesTo 34 = .ok (.iastore, 1) := by decide +kernel
theorem dX9_goesTo_35 : decode cX9_goesTo 35 = .ok (.iload_n 3, 1) := by decide +kernel
theorem dX9_goesTo_36 : decode cX9_goesTo 36 = .ok (.ifCond .ne 16, 3) := by decide +kernel
theorem dX9_goesTo_39 : decode cX9_goesTo 39 = .ok (.aload_n 0, 1) := by decide +kernel
theorem dX9_goesTo_40 : decode cX9_goesTo 40 = .ok (.getfield 67, 3) := by decide +kernel
theorem dX9_goesTo_43 : decode cX9_goesTo 43 = .ok (.iload_n 1, 1) := by decide +kernel
theorem dX9_goesTo_44 : decode cX9_goesTo 44 = .ok (.iconst 2, 1) := by decide +kernel
theorem dX9_goesTo_45 : decode cX9_goesTo 45 = .ok (.iadd, 1) := by decide +kernel
theorem dX9_goesTo_46 : decode cX9_goesTo 46 = .ok (.dup2, 1) := by decide +kernel
theorem dX9_goesTo_47 : decode cX9_goesTo 47 = .ok (.iaload, 1) := by decide +kernel
theorem dX9_goesTo_48 : decode cX9_goesTo 48 = .ok (.iload 5, 2) := by decide +kernel
theorem dX9_goesTo_50 : decode cX9_goesTo 50 = .ok (.iadd, 1) := by decide +kernel
theorem dX9_goesTo_51 : decode cX9_goesTo 51 = .ok (.iastore, 1) := by decide +kernel
theorem dX9_goesTo_52 : decode cX9_goesTo 52 = .ok (.iconst 0, 1) := by decide +kernel
theorem dX9_goesTo_53 : decode cX9_goesTo 53 = .ok (.istore 6, 2) := by decide +kernel
theorem dX9_goesTo_55 : decode cX9_goesTo 55 = .ok (.iload 6, 2) := by decide +kernel
theorem dX9_goesTo_57 : decode cX9_goesTo 57 = .ok (.bipush 16, 2) := by decide +kernel
theorem dX9_goesTo_59 : decode cX9_goesTo 59 = .ok (.if_icmp .ge 34, 3) := by decide +kernel
theorem dX9_goesTo_62 : decode cX9_goesTo 62 = .ok (.iload_n 3, 1) := by decide +kernel
theorem dX9_goesTo_63 : decode cX9_goesTo 63 = .ok (.iload 6, 2) := by decide +kernel
theorem dX9_goesTo_65 : decode cX9_goesTo 65 = .ok (.invokestatic 132, 3) := by decide +kernel
theorem dX9_goesTo_68 : decode cX9_goesTo 68 = .ok (.ifCond .eq 19, 3) := by decide +kernel
theorem dX9_goesTo_71 : decode cX9_goesTo 71 = .ok (.aload_n 0, 1) := by decide +kernel
theorem dX9_goesTo_72 : decode cX9_goesTo 72 = .ok (.getfield 67, 3) := by decide +kernel
theorem dX9_goesTo_75 : decode cX9_goesTo 75 = .ok (.sipush 853, 3) := by decide +kernel
theorem dX9_goesTo_78 : decode cX9_goesTo 78 = .ok (.iload 6, 2) := by decide +kernel
theorem dX9_goesTo_80 : decode cX9_goesTo 80 = .ok (.iadd, 1) := by decide +kernel
theorem dX9_goesTo_81 : decode cX9_goesTo 81 = .ok (.dup2, 1) := by decide +kernel
theorem dX9_goesTo_82 : decode cX9_goesTo 82 = .ok (.iaload, 1) := by decide +kernel
theorem dX9_goesTo_83 : decode cX9_goesTo 83 = .ok (.iload 5, 2) := by decide +kernel
theorem dX9_goesTo_85 : decode cX9_goesTo 85 = .ok (.iadd, 1) := by decide +kernel
theorem dX9_goesTo_86 : decode cX9_goesTo 86 = .ok (.iastore, 1) := by decide +kernel
theorem dX9_goesTo_87 : decode cX9_goesTo 87 = .ok (.iinc 6 1, 3) := by decide +kernel
theorem dX9_goesTo_90 : decode cX9_goesTo 90 = .ok (.goto (-35), 3) := by decide +kernel
theorem dX9_goesTo_93 : decode cX9_goesTo 93 = .ok (.iload 4, 2) := by decide +kernel
theorem dX9_goesTo_95 : decode cX9_goesTo 95 = .ok (.iload_n 2, 1) := by decide +kernel
theorem dX9_goesTo_96 : decode cX9_goesTo 96 = .ok (.if_icmp .eq 23, 3) := by decide +kernel
theorem dX9_goesTo_99 : decode cX9_goesTo 99 = .ok (.aload_n 0, 1) := by decide +kernel
theorem dX9_goesTo_100 : decode cX9_goesTo 100 = .ok (.getfield 67, 3) := by decide +kernel
theorem dX9_goesTo_103 : decode cX9_goesTo 103 = .ok (.sipush 709, 3) := by decide +kernel
theorem dX9_goesTo_106 : decode cX9_goesTo 106 = .ok (.bipush 12, 2) := by decide +kernel
theorem dX9_goesTo_108 : decode cX9_goesTo 108 = .ok (.iload 4, 2) := by decide +kernel
theorem dX9_goesTo_110 : decode cX9_goesTo 110 = .ok (.imul, 1) := by decide +kernel
theorem dX9_goesTo_111 : decode cX9_goesTo 111 = .ok (.iadd, 1) := by decide +kernel
theorem dX9_goesTo_112 : decode cX9_goesTo 112 = .ok (.iload_n 2, 1) := by decide +kernel
theorem dX9_goesTo_113 : decode cX9_goesTo 113 = .ok (.iadd, 1) := by decide +kernel
theorem dX9_goesTo_114 : decode cX9_goesTo 114 = .ok (.dup2, 1) := by decide +kernel
theorem dX9_goesTo_115 : decode cX9_goesTo 115 = .ok (.iaload, 1) := by decide +kernel
theorem dX9_goesTo_116 : decode cX9_goesTo 116 = .ok (.iconst 1, 1) := by decide +kernel
theorem dX9_goesTo_117 : decode cX9_goesTo 117 = .ok (.iadd, 1) := by decide +kernel
theorem dX9_goesTo_118 : decode cX9_goesTo 118 = .ok (.iastore, 1) := by decide +kernel
theorem dX9_goesTo_119 : decode cX9_goesTo 119 = .ok (.aload_n 0, 1) := by decide +kernel
theorem dX9_goesTo_120 : decode cX9_goesTo 120 = .ok (.getfield 67, 3) := by decide +kernel
theorem dX9_goesTo_123 : decode cX9_goesTo 123 = .ok (.iload_n 1, 1) := by decide +kernel
theorem dX9_goesTo_124 : decode cX9_goesTo 124 = .ok (.iconst 4, 1) := by decide +kernel
theorem dX9_goesTo_125 : decode cX9_goesTo 125 = .ok (.iadd, 1) := by decide +kernel
theorem dX9_goesTo_126 : decode cX9_goesTo 126 = .ok (.iload_n 2, 1) := by decide +kernel
theorem dX9_goesTo_127 : decode cX9_goesTo 127 = .ok (.iastore, 1) := by decide +kernel
theorem dX9_goesTo_128 : decode cX9_goesTo 128 = .ok (.return_, 1) := by decide +kernel
theorem dX9_readTrip_0 : decode cX9_readTrip 0 = .ok (.aload_n 0, 1) := by decide +kernel
theorem dX9_readTrip_1 : decode cX9_readTrip 1 = .ok (.getfield 67, 3) := by decide +kernel
theorem dX9_readTrip_4 : decode cX9_readTrip 4 = .ok (.bipush 40, 2) := by decide +kernel
theorem dX9_readTrip_6 : decode cX9_readTrip 6 = .ok (.iaload, 1) := by decide +kernel
theorem dX9_readTrip_7 : decode cX9_readTrip 7 = .ok (.istore_n 1, 1) := by decide +kernel
theorem dX9_readTrip_8 : decode cX9_readTrip 8 = .ok (.iload_n 1, 1) := by decide +kernel
theorem dX9_readTrip_9 : decode cX9_readTrip 9 = .ok (.bipush 16, 2) := by decide +kernel
theorem dX9_readTrip_11 : decode cX9_readTrip 11 = .ok (.if_icmp .ne 9, 3) := by decide +kernel
theorem dX9_readTrip_14 : decode cX9_readTrip 14 = .ok (.aload_n 0, 1) := by decide +kernel
theorem dX9_readTrip_15 : decode cX9_readTrip 15 = .ok (.iconst 4, 1) := by decide +kernel
theorem dX9_readTrip_16 : decode cX9_readTrip 16 = .ok (.invokevirtual 110, 3) := by decide +kernel
theorem dX9_readTrip_19 : decode cX9_readTrip 19 = .ok (.ireturn, 1) := by decide +kernel
theorem dX9_readTrip_20 : decode cX9_readTrip 20 = .ok (.aload_n 0, 1) := by decide +kernel
theorem dX9_readTrip_21 : decode cX9_readTrip 21 = .ok (.invokevirtual 117, 3) := by decide +kernel
theorem dX9_readTrip_24 : decode cX9_readTrip 24 = .ok (.bipush 101, 2) := by decide +kernel
theorem dX9_readTrip_26 : decode cX9_readTrip 26 = .ok (.bipush 6, 2) := by decide +kernel
theorem dX9_readTrip_28 : decode cX9_readTrip 28 = .ok (.iload_n 1, 1) := by decide +kernel
theorem dX9_readTrip_29 : decode cX9_readTrip 29 = .ok (.imul, 1) := by decide +kernel
theorem dX9_readTrip_30 : decode cX9_readTrip 30 = .ok (.iadd, 1) := by decide +kernel
theorem dX9_readTrip_31 : decode cX9_readTrip 31 = .ok (.istore_n 2, 1) := by decide +kernel
theorem dX9_readTrip_32 : decode cX9_readTrip 32 = .ok (.aload_n 0, 1) := by decide +kernel
theorem dX9_readTrip_33 : decode cX9_readTrip 33 = .ok (.iconst 0, 1) := by decide +kernel
theorem dX9_readTrip_34 : decode cX9_readTrip 34 = .ok (.aload_n 0, 1) := by decide +kernel
theorem dX9_readTrip_35 : decode cX9_readTrip 35 = .ok (.getfield 67, 3) := by decide +kernel
theorem dX9_readTrip_38 : decode cX9_readTrip 38 = .ok (.bipush 38, 2) := by decide +kernel
theorem dX9_readTrip_40 : decode cX9_readTrip 40 = .ok (.iaload, 1) := by decide +kernel
theorem dX9_readTrip_41 : decode cX9_readTrip 41 = .ok (.iconst 1, 1) := by decide +kernel
theorem dX9_readTrip_42 : decode cX9_readTrip 42 = .ok (.isub, 1) := by decide +kernel
theorem dX9_readTrip_43 : decode cX9_readTrip 43 = .ok (.iconst 3, 1) := by decide +kernel
theorem dX9_readTrip_44 : decode cX9_readTrip 44 = .ok (.invokevirtual 120, 3) := by decide +kernel
theorem dX9_readTrip_47 : decode cX9_readTrip 47 = .ok (.istore_n 3, 1) := by decide +kernel
theorem dX9_readTrip_48 : decode cX9_readTrip 48 = .ok (.iload_n 3, 1) := by decide +kernel
theorem dX9_readTrip_49 : decode cX9_readTrip 49 = .ok (.iconst (-1), 1) := by decide +kernel
theorem dX9_readTrip_50 : decode cX9_readTrip 50 = .ok (.if_icmp .ne 5, 3) := by decide +kernel
theorem dX9_readTrip_53 : decode cX9_readTrip 53 = .ok (.iconst 0, 1) := by decide +kernel
theorem dX9_readTrip_54 : decode cX9_readTrip 54 = .ok (.ireturn, 1) := by decide +kernel
theorem dX9_readTrip_55 : decode cX9_readTrip 55 = .ok (.aload_n 0, 1) := by decide +kernel
theorem dX9_readTrip_56 : decode cX9_readTrip 56 = .ok (.getfield 67, 3) := by decide +kernel
theorem dX9_readTrip_59 : decode cX9_readTrip 59 = .ok (.iload_n 2, 1) := by decide +kernel
theorem dX9_readTrip_60 : decode cX9_readTrip 60 = .ok (.iconst 0, 1) := by decide +kernel
theorem dX9_readTrip_61 : decode cX9_readTrip 61 = .ok (.iadd, 1) := by decide +kernel
theorem dX9_readTrip_62 : decode cX9_readTrip 62 = .ok (.iload_n 3, 1) := by decide +kernel
theorem dX9_readTrip_63 : decode cX9_readTrip 63 = .ok (.iastore, 1) := by decide +kernel
theorem dX9_readTrip_64 : decode cX9_readTrip 64 = .ok (.aload_n 0, 1) := by decide +kernel
theorem dX9_readTrip_65 : decode cX9_readTrip 65 = .ok (.getfield 67, 3) := by decide +kernel
theorem dX9_readTrip_68 : decode cX9_readTrip 68 = .ok (.iconst 4, 1) := by decide +kernel
theorem dX9_readTrip_69 : decode cX9_readTrip 69 = .ok (.iload_n 1, 1) := by decide +kernel
theorem dX9_readTrip_70 : decode cX9_readTrip 70 = .ok (.iadd, 1) := by decide +kernel
theorem dX9_readTrip_71 : decode cX9_readTrip 71 = .ok (.iconst (-1), 1) := by decide +kernel
theorem dX9_readTrip_72 : decode cX9_readTrip 72 = .ok (.iastore, 1) := by decide +kernel
theorem dX9_readTrip_73 : decode cX9_readTrip 73 = .ok (.aload_n 0, 1) := by decide +kernel
theorem dX9_readTrip_74 : decode cX9_readTrip 74 = .ok (.bipush 110, 2) := by decide +kernel
theorem dX9_readTrip_76 : decode cX9_readTrip 76 = .ok (.bipush 111, 2) := by decide +kernel
theorem dX9_readTrip_78 : decode cX9_readTrip 78 = .ok (.bipush 110, 2) := by decide +kernel
theorem dX9_readTrip_80 : decode cX9_readTrip 80 = .ok (.bipush 101, 2) := by decide +kernel
theorem dX9_readTrip_82 : decode cX9_readTrip 82 = .ok (.iconst 0, 1) := by decide +kernel
theorem dX9_readTrip_83 : decode cX9_readTrip 83 = .ok (.invokevirtual 136, 3) := by decide +kernel
theorem dX9_readTrip_86 : decode cX9_readTrip 86 = .ok (.ifCond .eq 10, 3) := by decide +kernel
theorem dX9_readTrip_89 : decode cX9_readTrip 89 = .ok (.aload_n 0, 1) := by decide +kernel
theorem dX9_readTrip_90 : decode cX9_readTrip 90 = .ok (.invokevirtual 117, 3) := by decide +kernel
theorem dX9_readTrip_93 : decode cX9_readTrip 93 = .ok (.goto 32, 3) := by decide +kernel
theorem dX9_readTrip_96 : decode cX9_readTrip 96 = .ok (.aload_n 0, 1) := by decide +kernel
theorem dX9_readTrip_97 : decode cX9_readTrip 97 = .ok (.iconst 0, 1) := by decide +kernel
theorem dX9_readTrip_98 : decode cX9_readTrip 98 = .ok (.sipush 9999, 3) := by decide +kernel
theorem dX9_readTrip_101 : decode cX9_readTrip 101 = .ok (.iconst 2, 1) := by decide +kernel
theorem dX9_readTrip_102 : decode cX9_readTrip 102 = .ok (.invokevirtual 120, 3) := by decide +kernel
theorem dX9_readTrip_105 : decode cX9_readTrip 105 = .ok (.istore 4, 2) := by decide +kernel
theorem dX9_readTrip_107 : decode cX9_readTrip 107 = .ok (.iload 4, 2) := by decide +kernel
theorem dX9_readTrip_109 : decode cX9_readTrip 109 = .ok (.iconst (-1), 1) := by decide +kernel
theorem dX9_readTrip_110 : decode cX9_readTrip 110 = .ok (.if_icmp .ne 5, 3) := by decide +kernel
theorem dX9_readTrip_113 : decode cX9_readTrip 113 = .ok (.iconst 0, 1) := by decide +kernel
theorem dX9_readTrip_114 : decode cX9_readTrip 114 = .ok (.ireturn, 1) := by decide +kernel
theorem dX9_readTrip_115 : decode cX9_readTrip 115 = .ok (.aload_n 0, 1) := by decide +kernel
theorem dX9_readTrip_116 : decode cX9_readTrip 116 = .ok (.getfield 67, 3) := by decide +kernel
theorem dX9_readTrip_119 : decode cX9_readTrip 119 = .ok (.iconst 4, 1) := by decide +kernel
theorem dX9_readTrip_120 : decode cX9_readTrip 120 = .ok (.iload_n 1, 1) := by decide +kernel
theorem dX9_readTrip_121 : decode cX9_readTrip 121 = .ok (.iadd, 1) := by decide +kernel
theorem dX9_readTrip_122 : decode cX9_readTrip 122 = .ok (.iload 4, 2) := by decide +kernel
theorem dX9_readTrip_124 : decode cX9_readTrip 124 = .ok (.iastore, 1) := by decide +kernel
theorem dX9_readTrip_125 : decode cX9_readTrip 125 = .ok (.aload_n 0, 1) := by decide +kernel
theorem dX9_readTrip_126 : decode cX9_readTrip 126 = .ok (.invokevirtual 124, 3) := by decide +kernel
theorem dX9_readTrip_129 : decode cX9_readTrip 129 = .ok (.istore 4, 2) := by decide +kernel
theorem dX9_readTrip_131 : decode cX9_readTrip 131 = .ok (.iload 4, 2) := by decide +kernel
theorem dX9_readTrip_133 : decode cX9_readTrip 133 = .ok (.iconst (-1), 1) := by decide +kernel
theorem dX9_readTrip_134 : decode cX9_readTrip 134 = .ok (.if_icmp .ne 5, 3) := by decide +kernel
theorem dX9_readTrip_137 : decode cX9_readTrip 137 = .ok (.iconst 0, 1) := by decide +kernel
theorem dX9_readTrip_138 : decode cX9_readTrip 138 = .ok (.ireturn, 1) := by decide +kernel
theorem dX9_readTrip_139 : decode cX9_readTrip 139 = .ok (.aload_n 0, 1) := by decide +kernel
theorem dX9_readTrip_140 : decode cX9_readTrip 140 = .ok (.getfield 67, 3) := by decide +kernel
theorem dX9_readTrip_143 : decode cX9_readTrip 143 = .ok (.iload_n 2, 1) := by decide +kernel
theorem dX9_readTrip_144 : decode cX9_readTrip 144 = .ok (.iconst 3, 1) := by decide +kernel
theorem dX9_readTrip_145 : decode cX9_readTrip 145 = .ok (.iadd, 1) := by decide +kernel
theorem dX9_readTrip_146 : decode cX9_readTrip 146 = .ok (.iload 4, 2) := by decide +kernel
theorem dX9_readTrip_148 : decode cX9_readTrip 148 = .ok (.iastore, 1) := by decide +kernel
theorem dX9_readTrip_149 : decode cX9_readTrip 149 = .ok (.aload_n 0, 1) := by decide +kernel
theorem dX9_readTrip_150 : decode cX9_readTrip 150 = .ok (.getfield 67, 3) := by decide +kernel
theorem dX9_readTrip_153 : decode cX9_readTrip 153 = .ok (.iload_n 2, 1) := by decide +kernel
theorem dX9_readTrip_154 : decode cX9_readTrip 154 = .ok (.iconst 4, 1) := by decide +kernel
theorem dX9_readTrip_155 : decode cX9_readTrip 155 = .ok (.iadd, 1) := by decide +kernel
theorem dX9_readTrip_156 : decode cX9_readTrip 156 = .ok (.iload 4, 2) := by decide +kernel
theorem dX9_readTrip_158 : decode cX9_readTrip 158 = .ok (.iastore, 1) := by decide +kernel
theorem dX9_readTrip_159 : decode cX9_readTrip 159 = .ok (.iconst 0, 1) := by decide +kernel
theorem dX9_readTrip_160 : decode cX9_readTrip 160 = .ok (.istore 5, 2) := by decide +kernel
theorem dX9_readTrip_162 : decode cX9_readTrip 162 = .ok (.aload_n 0, 1) := by decide +kernel
theorem dX9_readTrip_163 : decode cX9_readTrip 163 = .ok (.getfield 27, 3) := by decide +kernel
theorem dX9_readTrip_166 : decode cX9_readTrip 166 = .ok (.iconst 2, 1) := by decide +kernel
theorem dX9_readTrip_167 : decode cX9_readTrip 167 = .ok (.if_icmp .ne 244, 3) := by decide +kernel
theorem dX9_readTrip_170 : decode cX9_readTrip 170 = .ok (.aload_n 0, 1) := by decide +kernel
theorem dX9_readTrip_171 : decode cX9_readTrip 171 = .ok (.bipush 111, 2) := by decide +kernel
theorem dX9_readTrip_173 : decode cX9_readTrip 173 = .ok (.bipush 110, 2) := by decide +kernel
theorem dX9_readTrip_175 : decode cX9_readTrip 175 = .ok (.iconst 0, 1) := by decide +kernel
theorem dX9_readTrip_176 : decode cX9_readTrip 176 = .ok (.iconst 0, 1) := by decide +kernel
theorem dX9_readTrip_177 : decode cX9_readTrip 177 = .ok (.iconst 0, 1) := by decide +kernel
theorem dX9_readTrip_178 : decode cX9_readTrip 178 = .ok (.invokevirtual 136, 3) := by decide +kernel
theorem dX9_readTrip_181 : decode cX9_readTrip 181 = .ok (.istore 6, 2) := by decide +kernel
theorem dX9_readTrip_183 : decode cX9_readTrip 183 = .ok (.aload_n 0, 1) := by decide +kernel
theorem dX9_readTrip_184 : decode cX9_readTrip 184 = .ok (.bipush 111, 2) := by decide +kernel
theorem dX9_readTrip_186 : decode cX9_readTrip 186 = .ok (.bipush 102, 2) := by decide +kernel
theorem dX9_readTrip_188 : decode cX9_readTrip 188 = .ok (.bipush 102, 2) := by decide +kernel
theorem dX9_readTrip_190 : decode cX9_readTrip 190 = .ok (.iconst 0, 1) := by decide +kernel
theorem dX9_readTrip_191 : decode cX9_readTrip 191 = .ok (.iconst 0, 1) := by decide +kernel
theorem dX9_readTrip_192 : decode cX9_readTrip 192 = .ok (.invokevirtual 136, 3) := by decide +kernel
theorem dX9_readTrip_195 : decode cX9_readTrip 195 = .ok (.istore 7, 2) := by decide +kernel
theorem dX9_readTrip_197 : decode cX9_readTrip 197 = .ok (.iload 6, 2) := by decide +kernel
theorem dX9_readTrip_199 : decode cX9_readTrip 199 = .ok (.ifCond .ne 28, 3) := by decide +kernel
theorem dX9_readTrip_202 : decode cX9_readTrip 202 = .ok (.iload 7, 2) := by decide +kernel
theorem dX9_readTrip_204 : decode cX9_readTrip 204 = .ok (.ifCond .ne 23, 3) := by decide +kernel
theorem dX9_readTrip_207 : decode cX9_readTrip 207 = .ok (.aload_n 0, 1) := by decide +kernel
theorem dX9_readTrip_208 : decode cX9_readTrip 208 = .ok (.bipush 116, 2) := by decide +kernel
theorem dX9_readTrip_210 : decode cX9_readTrip 210 = .ok (.bipush 111, 2) := by decide +kernel
theorem dX9_readTrip_212 : decode cX9_readTrip 212 = .ok (.iconst 0, 1) := by decide +kernel
theorem dX9_readTrip_213 : decode cX9_readTrip 213 = .ok (.iconst 0, 1) := by decide +kernel
theorem dX9_readTrip_214 : decode cX9_readTrip 214 = .ok (.iconst 0, 1) := by decide +kernel
theorem dX9_readTrip_215 : decode cX9_readTrip 215 = .ok (.invokevirtual 136, 3) := by decide +kernel
theorem dX9_readTrip_218 : decode cX9_readTrip 218 = .ok (.ifCond .ne 9, 3) := by decide +kernel
theorem dX9_readTrip_221 : decode cX9_readTrip 221 = .ok (.aload_n 0, 1) := by decide +kernel
theorem dX9_readTrip_222 : decode cX9_readTrip 222 = .ok (.iconst 1, 1) := by decide +kernel
theorem dX9_readTrip_223 : decode cX9_readTrip 223 = .ok (.invokevirtual 110, 3) := by decide +kernel
theorem dX9_readTrip_226 : decode cX9_readTrip 226 = .ok (.ireturn, 1) := by decide +kernel
theorem dX9_readTrip_227 : decode cX9_readTrip 227 = .ok (.aload_n 0, 1) := by decide +kernel
theorem dX9_readTrip_228 : decode cX9_readTrip 228 = .ok (.invokevirtual 117, 3) := by decide +kernel
theorem dX9_readTrip_231 : decode cX9_readTrip 231 = .ok (.iload 6, 2) := by decide +kernel
theorem dX9_readTrip_233 : decode cX9_readTrip 233 = .ok (.ifCond .ne 34, 3) := by decide +kernel
theorem dX9_readTrip_236 : decode cX9_readTrip 236 = .ok (.iload 7, 2) := by decide +kernel
theorem dX9_readTrip_238 : decode cX9_readTrip 238 = .ok (.ifCond .ne 29, 3) := by decide +kernel
theorem dX9_readTrip_241 : decode cX9_readTrip 241 = .ok (.aload_n 0, 1) := by decide +kernel
theorem dX9_readTrip_242 : decode cX9_readTrip 242 = .ok (.invokevirtual 124, 3) := by decide +kernel
theorem dX9_readTrip_245 : decode cX9_readTrip 245 = .ok (.istore 8, 2) := by decide +kernel
theorem dX9_readTrip_247 : decode cX9_readTrip 247 = .ok (.iload 8, 2) := by decide +kernel
theorem dX9_readTrip_249 : decode cX9_readTrip 249 = .ok (.iconst (-1), 1) := by decide +kernel
theorem dX9_readTrip_250 : decode cX9_readTrip 250 = .ok (.if_icmp .ne 5, 3) := by decide +kernel
theorem dX9_readTrip_253 : decode cX9_readTrip 253 = .ok (.iconst 0, 1) := by decide +kernel
theorem dX9_readTrip_254 : decode cX9_readTrip 254 = .ok (.ireturn, 1) := by decide +kernel
theorem dX9_readTrip_255 : decode cX9_readTrip 255 = .ok (.aload_n 0, 1) := by decide +kernel
theorem dX9_readTrip_256 : decode cX9_readTrip 256 = .ok (.iload_n 2, 1) := by decide +kernel
theorem dX9_readTrip_257 : decode cX9_readTrip 257 = .ok (.iload 8, 2) := by decide +kernel
theorem dX9_readTrip_259 : decode cX9_readTrip 259 = .ok (.iload 5, 2) := by decide +kernel
theorem dX9_readTrip_261 : decode cX9_readTrip 261 = .ok (.invokevirtual 140, 3) := by decide +kernel
theorem dX9_readTrip_264 : decode cX9_readTrip 264 = .ok (.goto (-102), 3) := by decide +kernel
theorem dX9_readTrip_267 : decode cX9_readTrip 267 = .ok (.aload_n 0, 1) := by decide +kernel
theorem dX9_readTrip_268 : decode cX9_readTrip 268 = .ok (.getfield 27, 3) := by decide +kernel
theorem dX9_readTrip_271 : decode cX9_readTrip 271 = .ok (.iconst 3, 1) := by decide +kernel
theorem dX9_readTrip_272 : decode cX9_readTrip 272 = .ok (.if_icmp .eq 9, 3) := by decide +kernel
theorem dX9_readTrip_275 : decode cX9_readTrip 275 = .ok (.aload_n 0, 1) := by decide +kernel
theorem dX9_readTrip_276 : decode cX9_readTrip 276 = .ok (.iconst 1, 1) := by decide +kernel
theorem dX9_readTrip_277 : decode cX9_readTrip 277 = .ok (.invokevirtual 110, 3) := by decide +kernel
theorem dX9_readTrip_280 : decode cX9_readTrip 280 = .ok (.ireturn, 1) := by decide +kernel
theorem dX9_readTrip_281 : decode cX9_readTrip 281 = .ok (.aload_n 0, 1) := by decide +kernel
theorem dX9_readTrip_282 : decode cX9_readTrip 282 = .ok (.getfield 41, 3) := by decide +kernel
theorem dX9_readTrip_285 : decode cX9_readTrip 285 = .ok (.aload_n 0, 1) := by decide +kernel
theorem dX9_readTrip_286 : decode cX9_readTrip 286 = .ok (.getfield 67, 3) := by decide +kernel
theorem dX9_readTrip_289 : decode cX9_readTrip 289 = .ok (.bipush 39, 2) := by decide +kernel
theorem dX9_readTrip_291 : decode cX9_readTrip 291 = .ok (.iaload, 1) := by decide +kernel
theorem dX9_readTrip_292 : decode cX9_readTrip 292 = .ok (.if_icmp .ge 41, 3) := by decide +kernel
theorem dX9_readTrip_295 : decode cX9_readTrip 295 = .ok (.iload 6, 2) := by decide +kernel
theorem dX9_readTrip_297 : decode cX9_readTrip 297 = .ok (.ifCond .eq 24, 3) := by decide +kernel
theorem dX9_readTrip_300 : decode cX9_readTrip 300 = .ok (.aload_n 0, 1) := by decide +kernel
theorem dX9_readTrip_301 : decode cX9_readTrip 301 = .ok (.getfield 67, 3) := by decide +kernel
theorem dX9_readTrip_304 : decode cX9_readTrip 304 = .ok (.iload_n 2, 1) := by decide +kernel
theorem dX9_readTrip_305 : decode cX9_readTrip 305 = .ok (.iconst 5, 1) := by decide +kernel
theorem dX9_readTrip_306 : decode cX9_readTrip 306 = .ok (.iadd, 1) := by decide +kernel
theorem dX9_readTrip_307 : decode cX9_readTrip 307 = .ok (.iaload, 1) := by decide +kernel
theorem dX9_readTrip_308 : decode cX9_readTrip 308 = .ok (.aload_n 0, 1) := by decide +kernel
theorem dX9_readTrip_309 : decode cX9_readTrip 309 = .ok (.getfield 41, 3) := by decide +kernel
theorem dX9_readTrip_312 : decode cX9_readTrip 312 = .ok (.invokestatic 132, 3) := by decide +kernel
theorem dX9_readTrip_315 : decode cX9_readTrip 315 = .ok (.ifCond .eq 24, 3) := by decide +kernel
theorem dX9_readTrip_318 : decode cX9_readTrip 318 = .ok (.goto 15, 3) := by decide +kernel
theorem dX9_readTrip_321 : decode cX9_readTrip 321 = .ok (.iload 5, 2) := by decide +kernel
theorem dX9_readTrip_323 : decode cX9_readTrip 323 = .ok (.aload_n 0, 1) := by decide +kernel
theorem dX9_readTrip_324 : decode cX9_readTrip 324 = .ok (.getfield 41, 3) := by decide +kernel
theorem dX9_readTrip_327 : decode cX9_readTrip 327 = .ok (.invokestatic 132, 3) := by decide +kernel
theorem dX9_readTrip_330 : decode cX9_readTrip 330 = .ok (.ifCond .ne 9, 3) := by decide +kernel
theorem dX9_readTrip_333 : decode cX9_readTrip 333 = .ok (.aload_n 0, 1) := by decide +kernel
theorem dX9_readTrip_334 : decode cX9_readTrip 334 = .ok (.iconst 3, 1) := by decide +kernel
theorem dX9_readTrip_335 : decode cX9_readTrip 335 = .ok (.invokevirtual 110, 3) := by decide +kernel
theorem dX9_readTrip_338 : decode cX9_readTrip 338 = .ok (.ireturn, 1) := by decide +kernel
theorem dX9_readTrip_339 : decode cX9_readTrip 339 = .ok (.aload_n 0, 1) := by decide +kernel
theorem dX9_readTrip_340 : decode cX9_readTrip 340 = .ok (.getfield 67, 3) := by decide +kernel
theorem dX9_readTrip_343 : decode cX9_readTrip 343 = .ok (.iload 6, 2) := by decide +kernel
theorem dX9_readTrip_345 : decode cX9_readTrip 345 = .ok (.ifCond .eq 9, 3) := by decide +kernel
theorem dX9_readTrip_348 : decode cX9_readTrip 348 = .ok (.sipush 197, 3) := by decide +kernel
theorem dX9_readTrip_351 : decode cX9_readTrip 351 = .ok (.goto 6, 3) := by decide +kernel
theorem dX9_readTrip_354 : decode cX9_readTrip 354 = .ok (.sipush 453, 3) := by decide +kernel
theorem dX9_readTrip_357 : decode cX9_readTrip 357 = .ok (.bipush 16, 2) := by decide +kernel
theorem dX9_readTrip_359 : decode cX9_readTrip 359 = .ok (.iload_n 1, 1) := by decide +kernel
theorem dX9_readTrip_360 : decode cX9_readTrip 360 = .ok (.imul, 1) := by decide +kernel
theorem dX9_readTrip_361 : decode cX9_readTrip 361 = .ok (.iadd, 1) := by decide +kernel
theorem dX9_readTrip_362 : decode cX9_readTrip 362 = .ok (.aload_n 0, 1) := by decide +kernel
theorem dX9_readTrip_363 : decode cX9_readTrip 363 = .ok (.getfield 41, 3) := by decide +kernel
theorem dX9_readTrip_366 : decode cX9_readTrip 366 = .ok (.iadd, 1) := by decide +kernel
theorem dX9_readTrip_367 : decode cX9_readTrip 367 = .ok (.aload_n 0, 1) := by decide +kernel
theorem dX9_readTrip_368 : decode cX9_readTrip 368 = .ok (.getfield 67, 3) := by decide +kernel
theorem dX9_readTrip_371 : decode cX9_readTrip 371 = .ok (.iload_n 2, 1) := by decide +kernel
theorem dX9_readTrip_372 : decode cX9_readTrip 372 = .ok (.iconst 4, 1) := by decide +kernel
theorem dX9_readTrip_373 : decode cX9_readTrip 373 = .ok (.iadd, 1) := by decide +kernel
theorem dX9_readTrip_374 : decode cX9_readTrip 374 = .ok (.iaload, 1) := by decide +kernel
theorem dX9_readTrip_375 : decode cX9_readTrip 375 = .ok (.iastore, 1) := by decide +kernel
theorem dX9_readTrip_376 : decode cX9_readTrip 376 = .ok (.iload 5, 2) := by decide +kernel
theorem dX9_readTrip_378 : decode cX9_readTrip 378 = .ok (.iconst 1, 1) := by decide +kernel
theorem dX9_readTrip_379 : decode cX9_readTrip 379 = .ok (.aload_n 0, 1) := by decide +kernel
theorem dX9_readTrip_380 : decode cX9_readTrip 380 = .ok (.getfield 41, 3) := by decide +kernel
theorem dX9_readTrip_383 : decode cX9_readTrip 383 = .ok (.ishl, 1) := by decide +kernel
theorem dX9_readTrip_384 : decode cX9_readTrip 384 = .ok (.ixor, 1) := by decide +kernel
theorem dX9_readTrip_385 : decode cX9_readTrip 385 = .ok (.istore 5, 2) := by decide +kernel
theorem dX9_readTrip_387 : decode cX9_readTrip 387 = .ok (.aload_n 0, 1) := by decide +kernel
theorem dX9_readTrip_388 : decode cX9_readTrip 388 = .ok (.getfield 67, 3) := by decide +kernel
theorem dX9_readTrip_391 : decode cX9_readTrip 391 = .ok (.iload_n 2, 1) := by decide +kernel
theorem dX9_readTrip_392 : decode cX9_readTrip 392 = .ok (.iconst 5, 1) := by decide +kernel
theorem dX9_readTrip_393 : decode cX9_readTrip 393 = .ok (.iadd, 1) := by decide +kernel
theorem dX9_readTrip_394 : decode cX9_readTrip 394 = .ok (.dup2, 1) := by decide +kernel
theorem dX9_readTrip_395 : decode cX9_readTrip 395 = .ok (.iaload, 1) := by decide +kernel
theorem dX9_readTrip_396 : decode cX9_readTrip 396 = .ok (.iconst 1, 1) := by decide +kernel
theorem dX9_readTrip_397 : decode cX9_readTrip 397 = .ok (.aload_n 0, 1) := by decide +kernel
theorem dX9_readTrip_398 : decode cX9_readTrip 398 = .ok (.getfield 41, 3) := by decide +kernel
theorem dX9_readTrip_401 : decode cX9_readTrip 401 = .ok (.ishl, 1) := by decide +kernel
theorem dX9_readTrip_402 : decode cX9_readTrip 402 = .ok (.ior, 1) := by decide +kernel
theorem dX9_readTrip_403 : decode cX9_readTrip 403 = .ok (.iastore, 1) := by decide +kernel
theorem dX9_readTrip_404 : decode cX9_readTrip 404 = .ok (.aload_n 0, 1) := by decide +kernel
theorem dX9_readTrip_405 : decode cX9_readTrip 405 = .ok (.invokevirtual 117, 3) := by decide +kernel
theorem dX9_readTrip_408 : decode cX9_readTrip 408 = .ok (.goto (-246), 3) := by decide +kernel
theorem dX9_readTrip_411 : decode cX9_readTrip 411 = .ok (.aload_n 0, 1) := by decide +kernel
theorem dX9_readTrip_412 : decode cX9_readTrip 412 = .ok (.getfield 27, 3) := by decide +kernel
theorem dX9_readTrip_415 : decode cX9_readTrip 415 = .ok (.iconst 4, 1) := by decide +kernel
theorem dX9_readTrip_416 : decode cX9_readTrip 416 = .ok (.if_icmp .ne 14, 3) := by decide +kernel
theorem dX9_readTrip_419 : decode cX9_readTrip 419 = .ok (.iload 5, 2) := by decide +kernel
theorem dX9_readTrip_421 : decode cX9_readTrip 421 = .ok (.ifCond .eq 9, 3) := by decide +kernel
theorem dX9_readTrip_424 : decode cX9_readTrip 424 = .ok (.aload_n 0, 1) := by decide +kernel
theorem dX9_readTrip_425 : decode cX9_readTrip 425 = .ok (.iconst 3, 1) := by decide +kernel
theorem dX9_readTrip_426 : decode cX9_readTrip 426 = .ok (.invokevirtual 110, 3) := by decide +kernel
theorem dX9_readTrip_429 : decode cX9_readTrip 429 = .ok (.ireturn, 1) := by decide +kernel
theorem dX9_readTrip_430 : decode cX9_readTrip 430 = .ok (.aload_n 0, 1) := by decide +kernel
theorem dX9_readTrip_431 : decode cX9_readTrip 431 = .ok (.getfield 67, 3) := by decide +kernel
theorem dX9_readTrip_434 : decode cX9_readTrip 434 = .ok (.bipush 40, 2) := by decide +kernel
theorem dX9_readTrip_436 : decode cX9_readTrip 436 = .ok (.dup2, 1) := by decide +kernel
theorem dX9_readTrip_437 : decode cX9_readTrip 437 = .ok (.iaload, 1) := by decide +kernel
theorem dX9_readTrip_438 : decode cX9_readTrip 438 = .ok (.iconst 1, 1) := by decide +kernel
theorem dX9_readTrip_439 : decode cX9_readTrip 439 = .ok (.iadd, 1) := by decide +kernel
theorem dX9_readTrip_440 : decode cX9_readTrip 440 = .ok (.iastore, 1) := by decide +kernel
theorem dX9_readTrip_441 : decode cX9_readTrip 441 = .ok (.iconst 1, 1) := by decide +kernel
theorem dX9_readTrip_442 : decode cX9_readTrip 442 = .ok (.ireturn, 1) := by decide +kernel
theorem dX9_readLine_0 : decode cX9_readLine 0 = .ok (.iload_n 1, 1) := by decide +kernel
theorem dX9_readLine_1 : decode cX9_readLine 1 = .ok (.ifCond .eq 32, 3) := by decide +kernel
theorem dX9_readLine_4 : decode cX9_readLine 4 = .ok (.aload_n 0, 1) := by decide +kernel
theorem dX9_readLine_5 : decode cX9_readLine 5 = .ok (.bipush 100, 2) := by decide +kernel
theorem dX9_readLine_7 : decode cX9_readLine 7 = .ok (.bipush 101, 2) := by decide +kernel
theorem dX9_readLine_9 : decode cX9_readLine 9 = .ok (.bipush 115, 2) := by decide +kernel
theorem dX9_readLine_11 : decode cX9_readLine 11 = .ok (.bipush 107, 2) := by decide +kernel
theorem dX9_readLine_13 : decode cX9_readLine 13 = .ok (.iconst 0, 1) := by decide +kernel
theorem dX9_readLine_14 : decode cX9_readLine 14 = .ok (.invokevirtual 136, 3) := by decide +kernel
theorem dX9_readLine_17 : decode cX9_readLine 17 = .ok (.ifCond .eq 10, 3) := by decide +kernel
theorem dX9_readLine_20 : decode cX9_readLine 20 = .ok (.aload_n 0, 1) := by decide +kernel
theorem dX9_readLine_21 : decode cX9_readLine 21 = .ok (.invokevirtual 144, 3) := by decide +kernel
theorem dX9_readLine_24 : decode cX9_readLine 24 = .ok (.goto 8, 3) := by decide +kernel
theorem dX9_readLine_27 : decode cX9_readLine 27 = .ok (.aload_n 0, 1) := by decide +kernel
theorem dX9_readLine_28 : decode cX9_readLine 28 = .ok (.iconst 1, 1) := by decide +kernel
theorem dX9_readLine_29 : decode cX9_readLine 29 = .ok (.invokevirtual 110, 3) := by decide +kernel
theorem dX9_readLine_32 : decode cX9_readLine 32 = .ok (.ireturn, 1) := by decide +kernel
theorem dX9_readLine_33 : decode cX9_readLine 33 = .ok (.aload_n 0, 1) := by decide +kernel
theorem dX9_readLine_34 : decode cX9_readLine 34 = .ok (.bipush 112, 2) := by decide +kernel
theorem dX9_readLine_36 : decode cX9_readLine 36 = .ok (.bipush 108, 2) := by decide +kernel
theorem dX9_readLine_38 : decode cX9_readLine 38 = .ok (.bipush 97, 2) := by decide +kernel
theorem dX9_readLine_40 : decode cX9_readLine 40 = .ok (.bipush 99, 2) := by decide +kernel
theorem dX9_readLine_42 : decode cX9_readLine 42 = .ok (.bipush 101, 2) := by decide +kernel
theorem dX9_readLine_44 : decode cX9_readLine 44 = .ok (.invokevirtual 136, 3) := by decide +kernel
theorem dX9_readLine_47 : decode cX9_readLine 47 = .ok (.ifCond .eq 8, 3) := by decide +kernel
theorem dX9_readLine_50 : decode cX9_readLine 50 = .ok (.aload_n 0, 1) := by decide +kernel
theorem dX9_readLine_51 : decode cX9_readLine 51 = .ok (.invokevirtual 148, 3) := by decide +kernel
theorem dX9_readLine_54 : decode cX9_readLine 54 = .ok (.ireturn, 1) := by decide +kernel
theorem dX9_readLine_55 : decode cX9_readLine 55 = .ok (.aload_n 0, 1) := by decide +kernel
theorem dX9_readLine_56 : decode cX9_readLine 56 = .ok (.bipush 116, 2) := by decide +kernel
theorem dX9_readLine_58 : decode cX9_readLine 58 = .ok (.bipush 114, 2) := by decide +kernel
theorem dX9_readLine_60 : decode cX9_readLine 60 = .ok (.bipush 117, 2) := by decide +kernel
theorem dX9_readLine_62 : decode cX9_readLine 62 = .ok (.bipush 99, 2) := by decide +kernel
theorem dX9_readLine_64 : decode cX9_readLine 64 = .ok (.bipush 107, 2) := by decide +kernel
theorem dX9_readLine_66 : decode cX9_readLine 66 = .ok (.invokevirtual 136, 3) := by decide +kernel
theorem dX9_readLine_69 : decode cX9_readLine 69 = .ok (.ifCond .eq 8, 3) := by decide +kernel
theorem dX9_readLine_72 : decode cX9_readLine 72 = .ok (.aload_n 0, 1) := by decide +kernel
theorem dX9_readLine_73 : decode cX9_readLine 73 = .ok (.invokevirtual 151, 3) := by decide +kernel
theorem dX9_readLine_76 : decode cX9_readLine 76 = .ok (.ireturn, 1) := by decide +kernel
theorem dX9_readLine_77 : decode cX9_readLine 77 = .ok (.aload_n 0, 1) := by decide +kernel
theorem dX9_readLine_78 : decode cX9_readLine 78 = .ok (.bipush 108, 2) := by decide +kernel
theorem dX9_readLine_80 : decode cX9_readLine 80 = .ok (.bipush 111, 2) := by decide +kernel
theorem dX9_readLine_82 : decode cX9_readLine 82 = .ok (.bipush 97, 2) := by decide +kernel
theorem dX9_readLine_84 : decode cX9_readLine 84 = .ok (.bipush 100, 2) := by decide +kernel
theorem dX9_readLine_86 : decode cX9_readLine 86 = .ok (.iconst 0, 1) := by decide +kernel
theorem dX9_readLine_87 : decode cX9_readLine 87 = .ok (.invokevirtual 136, 3) := by decide +kernel
theorem dX9_readLine_90 : decode cX9_readLine 90 = .ok (.ifCond .eq 8, 3) := by decide +kernel
theorem dX9_readLine_93 : decode cX9_readLine 93 = .ok (.aload_n 0, 1) := by decide +kernel
theorem dX9_readLine_94 : decode cX9_readLine 94 = .ok (.invokevirtual 154, 3) := by decide +kernel
theorem dX9_readLine_97 : decode cX9_readLine 97 = .ok (.ireturn, 1) := by decide +kernel
theorem dX9_readLine_98 : decode cX9_readLine 98 = .ok (.aload_n 0, 1) := by decide +kernel
theorem dX9_readLine_99 : decode cX9_readLine 99 = .ok (.bipush 116, 2) := by decide +kernel
theorem dX9_readLine_101 : decode cX9_readLine 101 = .ok (.bipush 114, 2) := by decide +kernel
theorem dX9_readLine_103 : decode cX9_readLine 103 = .ok (.bipush 105, 2) := by decide +kernel
theorem dX9_readLine_105 : decode cX9_readLine 105 = .ok (.bipush 112, 2) := by decide +kernel
theorem dX9_readLine_107 : decode cX9_readLine 107 = .ok (.iconst 0, 1) := by decide +kernel
theorem dX9_readLine_108 : decode cX9_readLine 108 = .ok (.invokevirtual 136, 3) := by decide +kernel
theorem dX9_readLine_111 : decode cX9_readLine 111 = .ok (.ifCond .eq 10, 3) := by decide +kernel
theorem dX9_readLine_114 : decode cX9_readLine 114 = .ok (.aload_n 0, 1) := by decide +kernel
theorem dX9_readLine_115 : decode cX9_readLine 115 = .ok (.invokevirtual 157, 3) := by decide +kernel
theorem dX9_readLine_118 : decode cX9_readLine 118 = .ok (.goto 8, 3) := by decide +kernel
theorem dX9_readLine_121 : decode cX9_readLine 121 = .ok (.aload_n 0, 1) := by decide +kernel
theorem dX9_readLine_122 : decode cX9_readLine 122 = .ok (.iconst 1, 1) := by decide +kernel
theorem dX9_readLine_123 : decode cX9_readLine 123 = .ok (.invokevirtual 110, 3) := by decide +kernel
theorem dX9_readLine_126 : decode cX9_readLine 126 = .ok (.ireturn, 1) := by decide +kernel
theorem dX9_readEnd_0 : decode cX9_readEnd 0 = .ok (.aload_n 0, 1) := by decide +kernel
theorem dX9_readEnd_1 : decode cX9_readEnd 1 = .ok (.getfield 27, 3) := by decide +kernel
theorem dX9_readEnd_4 : decode cX9_readEnd 4 = .ok (.iconst 4, 1) := by decide +kernel
theorem dX9_readEnd_5 : decode cX9_readEnd 5 = .ok (.if_icmp .eq 9, 3) := by decide +kernel
theorem dX9_readEnd_8 : decode cX9_readEnd 8 = .ok (.aload_n 0, 1) := by decide +kernel
theorem dX9_readEnd_9 : decode cX9_readEnd 9 = .ok (.iconst 1, 1) := by decide +kernel
theorem dX9_readEnd_10 : decode cX9_readEnd 10 = .ok (.invokevirtual 110, 3) := by decide +kernel
theorem dX9_readEnd_13 : decode cX9_readEnd 13 = .ok (.ireturn, 1) := by decide +kernel
theorem dX9_readEnd_14 : decode cX9_readEnd 14 = .ok (.aload_n 0, 1) := by decide +kernel
theorem dX9_readEnd_15 : decode cX9_readEnd 15 = .ok (.invokevirtual 117, 3) := by decide +kernel
theorem dX9_readEnd_18 : decode cX9_readEnd 18 = .ok (.iconst 1, 1) := by decide +kernel
theorem dX9_readEnd_19 : decode cX9_readEnd 19 = .ok (.ireturn, 1) := by decide +kernel
theorem dX9_text_0 : decode cX9_text 0 = .ok (.aload_n 0, 1) := by decide +kernel
theorem dX9_text_1 : decode cX9_text 1 = .ok (.iconst 0, 1) := by decide +kernel
theorem dX9_text_2 : decode cX9_text 2 = .ok (.putfield 1, 3) := by decide +kernel
theorem dX9_text_5 : decode cX9_text 5 = .ok (.aload_n 0, 1) := by decide +kernel
theorem dX9_text_6 : decode cX9_text 6 = .ok (.aload_n 0, 1) := by decide +kernel
theorem dX9_text_7 : decode cX9_text 7 = .ok (.getfield 11, 3) := by decide +kernel
theorem dX9_text_10 : decode cX9_text 10 = .ok (.putfield 18, 3) := by decide +kernel
theorem dX9_text_13 : decode cX9_text 13 = .ok (.aload_n 0, 1) := by decide +kernel
theorem dX9_text_14 : decode cX9_text 14 = .ok (.iconst 0, 1) := by decide +kernel
theorem dX9_text_15 : decode cX9_text 15 = .ok (.putfield 11, 3) := by decide +kernel
theorem dX9_text_18 : decode cX9_text 18 = .ok (.aload_n 0, 1) := by decide +kernel
theorem dX9_text_19 : decode cX9_text 19 = .ok (.iconst 0, 1) := by decide +kernel
theorem dX9_text_20 : decode cX9_text 20 = .ok (.putfield 52, 3) := by decide +kernel
theorem dX9_text_23 : decode cX9_text 23 = .ok (.aload_n 0, 1) := by decide +kernel
theorem dX9_text_24 : decode cX9_text 24 = .ok (.iconst 0, 1) := by decide +kernel
theorem dX9_text_25 : decode cX9_text 25 = .ok (.putfield 21, 3) := by decide +kernel
theorem dX9_text_28 : decode cX9_text 28 = .ok (.iconst 0, 1) := by decide +kernel
theorem dX9_text_29 : decode cX9_text 29 = .ok (.istore_n 1, 1) := by decide +kernel
theorem dX9_text_30 : decode cX9_text 30 = .ok (.iconst 0, 1) := by decide +kernel
theorem dX9_text_31 : decode cX9_text 31 = .ok (.istore_n 2, 1) := by decide +kernel
theorem dX9_text_32 : decode cX9_text 32 = .ok (.iload_n 2, 1) := by decide +kernel
theorem dX9_text_33 : decode cX9_text 33 = .ok (.sipush 869, 3) := by decide +kernel
theorem dX9_text_36 : decode cX9_text 36 = .ok (.if_icmp .ge 16, 3) := by decide +kernel
theorem dX9_text_39 : decode cX9_text 39 = .ok (.aload_n 0, 1) := by decide +kernel
theorem dX9_text_40 : decode cX9_text 40 = .ok (.getfield 67, 3) := by decide +kernel
theorem dX9_text_43 : decode cX9_text 43 = .ok (.iload_n 2, 1) := by decide +kernel
theorem dX9_text_44 : decode cX9_text 44 = .ok (.iconst 0, 1) := by decide +kernel
theorem dX9_text_45 : decode cX9_text 45 = .ok (.iastore, 1) := by decide +kernel
theorem dX9_text_46 : decode cX9_text 46 = .ok (.iinc 2 1, 3) := by decide +kernel
theorem dX9_text_49 : decode cX9_text 49 = .ok (.goto (-17), 3) := by decide +kernel
theorem dX9_text_52 : decode cX9_text 52 = .ok (.aload_n 0, 1) := by decide +kernel
theorem dX9_text_53 : decode cX9_text 53 = .ok (.invokevirtual 117, 3) := by decide +kernel
theorem dX9_text_56 : decode cX9_text 56 = .ok (.aload_n 0, 1) := by decide +kernel
theorem dX9_text_57 : decode cX9_text 57 = .ok (.getfield 27, 3) := by decide +kernel
theorem dX9_text_60 : decode cX9_text 60 = .ok (.ifCond .eq 39, 3) := by decide +kernel
theorem dX9_text_63 : decode cX9_text 63 = .ok (.aload_n 0, 1) := by decide +kernel
theorem dX9_text_64 : decode cX9_text 64 = .ok (.iload_n 1, 1) := by decide +kernel
theorem dX9_text_65 : decode cX9_text 65 = .ok (.ifCond .ne 7, 3) := by decide +kernel
theorem dX9_text_68 : decode cX9_text 68 = .ok (.iconst 1, 1) := by decide +kernel
theorem dX9_text_69 : decode cX9_text 69 = .ok (.goto 4, 3) := by decide +kernel
theorem dX9_text_72 : decode cX9_text 72 = .ok (.iconst 0, 1) := by decide +kernel
theorem dX9_text_73 : decode cX9_text 73 = .ok (.invokevirtual 160, 3) := by decide +kernel
theorem dX9_text_76 : decode cX9_text 76 = .ok (.ifCond .eq 10, 3) := by decide +kernel
theorem dX9_text_79 : decode cX9_text 79 = .ok (.aload_n 0, 1) := by decide +kernel
theorem dX9_text_80 : decode cX9_text 80 = .ok (.invokevirtual 164, 3) := by decide +kernel
theorem dX9_text_83 : decode cX9_text 83 = .ok (.ifCond .ne 10, 3) := by decide +kernel
theorem dX9_text_86 : decode cX9_text 86 = .ok (.iconst (-1), 1) := by decide +kernel
theorem dX9_text_87 : decode cX9_text 87 = .ok (.aload_n 0, 1) := by decide +kernel
theorem dX9_text_88 : decode cX9_text 88 = .ok (.getfield 55, 3) := by decide +kernel
theorem dX9_text_91 : decode cX9_text 91 = .ok (.isub, 1) := by decide +kernel
theorem dX9_text_92 : decode cX9_text 92 = .ok (.ireturn, 1) := by decide +kernel
theorem dX9_text_93 : decode cX9_text 93 = .ok (.iinc 1 1, 3) := by decide +kernel
theorem dX9_text_96 : decode cX9_text 96 = .ok (.goto (-40), 3) := by decide +kernel
theorem dX9_text_99 : decode cX9_text 99 = .ok (.iconst 0, 1) := by decide +kernel
theorem dX9_text_100 : decode cX9_text 100 = .ok (.istore_n 2, 1) := by decide +kernel
theorem dX9_text_101 : decode cX9_text 101 = .ok (.iload_n 2, 1) := by decide +kernel
theorem dX9_text_102 : decode cX9_text 102 = .ok (.sipush 869, 3) := by decide +kernel
theorem dX9_text_105 : decode cX9_text 105 = .ok (.if_icmp .ge 21, 3) := by decide +kernel
theorem dX9_text_108 : decode cX9_text 108 = .ok (.aload_n 0, 1) := by decide +kernel
theorem dX9_text_109 : decode cX9_text 109 = .ok (.getfield 64, 3) := by decide +kernel
theorem dX9_text_112 : decode cX9_text 112 = .ok (.iload_n 2, 1) := by decide +kernel
theorem dX9_text_113 : decode cX9_text 113 = .ok (.aload_n 0, 1) := by decide +kernel
theorem dX9_text_114 : decode cX9_text 114 = .ok (.getfield 67, 3) := by decide +kernel
theorem dX9_text_117 : decode cX9_text 117 = .ok (.iload_n 2, 1) := by decide +kernel
theorem dX9_text_118 : decode cX9_text 118 = .ok (.iaload, 1) := by decide +kernel
theorem dX9_text_119 : decode cX9_text 119 = .ok (.iastore, 1) := by decide +kernel
theorem dX9_text_120 : decode cX9_text 120 = .ok (.iinc 2 1, 3) := by decide +kernel
theorem dX9_text_123 : decode cX9_text 123 = .ok (.goto (-22), 3) := by decide +kernel
theorem dX9_text_126 : decode cX9_text 126 = .ok (.aload_n 0, 1) := by decide +kernel
theorem dX9_text_127 : decode cX9_text 127 = .ok (.iconst 0, 1) := by decide +kernel
theorem dX9_text_128 : decode cX9_text 128 = .ok (.putfield 167, 3) := by decide +kernel
theorem dX9_text_131 : decode cX9_text 131 = .ok (.iload_n 1, 1) := by decide +kernel
theorem dX9_text_132 : decode cX9_text 132 = .ok (.ireturn, 1) := by decide +kernel
theorem dX9_fault_0 : decode cX9_fault 0 = .ok (.aload_n 0, 1) := by decide +kernel
theorem dX9_fault_1 : decode cX9_fault 1 = .ok (.iconst 0, 1) := by decide +kernel
theorem dX9_fault_2 : decode cX9_fault 2 = .ok (.putfield 1, 3) := by decide +kernel
theorem dX9_fault_5 : decode cX9_fault 5 = .ok (.aload_n 0, 1) := by decide +kernel
theorem dX9_fault_6 : decode cX9_fault 6 = .ok (.getfield 52, 3) := by decide +kernel
theorem dX9_fault_9 : decode cX9_fault 9 = .ok (.ireturn, 1) := by decide +kernel
theorem dX9_loads_0 : decode cX9_loads 0 = .ok (.aload_n 0, 1) := by decide +kernel
theorem dX9_loads_1 : decode cX9_loads 1 = .ok (.getfield 64, 3) := by decide +kernel
theorem dX9_loads_4 : decode cX9_loads 4 = .ok (.bipush 39, 2) := by decide +kernel
theorem dX9_loads_6 : decode cX9_loads 6 = .ok (.iaload, 1) := by decide +kernel
theorem dX9_loads_7 : decode cX9_loads 7 = .ok (.ireturn, 1) := by decide +kernel
theorem dX9_trips_0 : decode cX9_trips 0 = .ok (.aload_n 0, 1) := by decide +kernel
theorem dX9_trips_1 : decode cX9_trips 1 = .ok (.getfield 64, 3) := by decide +kernel
theorem dX9_trips_4 : decode cX9_trips 4 = .ok (.bipush 40, 2) := by decide +kernel
theorem dX9_trips_6 : decode cX9_trips 6 = .ok (.iaload, 1) := by decide +kernel
theorem dX9_trips_7 : decode cX9_trips 7 = .ok (.ireturn, 1) := by decide +kernel
theorem dX9_isPlace_0 : decode cX9_isPlace 0 = .ok (.iload_n 1, 1) := by decide +kernel
theorem dX9_isPlace_1 : decode cX9_isPlace 1 = .ok (.iconst 0, 1) := by decide +kernel
theorem dX9_isPlace_2 : decode cX9_isPlace 2 = .ok (.aload_n 0, 1) := by decide +kernel
theorem dX9_isPlace_3 : decode cX9_isPlace 3 = .ok (.getfield 64, 3) := by decide +kernel
theorem dX9_isPlace_6 : decode cX9_isPlace 6 = .ok (.bipush 37, 2) := by decide +kernel
theorem dX9_isPlace_8 : decode cX9_isPlace 8 = .ok (.iaload, 1) := by decide +kernel
theorem dX9_isPlace_9 : decode cX9_isPlace 9 = .ok (.iconst 1, 1) := by decide +kernel
theorem dX9_isPlace_10 : decode cX9_isPlace 10 = .ok (.isub, 1) := by decide +kernel
theorem dX9_isPlace_11 : decode cX9_isPlace 11 = .ok (.invokestatic 113, 3) := by decide +kernel
theorem dX9_isPlace_14 : decode cX9_isPlace 14 = .ok (.ireturn, 1) := by decide +kernel
theorem dX9_isTruck_0 : decode cX9_isTruck 0 = .ok (.iload_n 1, 1) := by decide +kernel
theorem dX9_isTruck_1 : decode cX9_isTruck 1 = .ok (.iconst 0, 1) := by decide +kernel
theorem dX9_isTruck_2 : decode cX9_isTruck 2 = .ok (.aload_n 0, 1) := by decide +kernel
theorem dX9_isTruck_3 : decode cX9_isTruck 3 = .ok (.getfield 64, 3) := by decide +kernel
theorem dX9_isTruck_6 : decode cX9_isTruck 6 = .ok (.bipush 38, 2) := by decide +kernel
theorem dX9_isTruck_8 : decode cX9_isTruck 8 = .ok (.iaload, 1) := by decide +kernel
theorem dX9_isTruck_9 : decode cX9_isTruck 9 = .ok (.iconst 1, 1) := by decide +kernel
theorem dX9_isTruck_10 : decode cX9_isTruck 10 = .ok (.isub, 1) := by decide +kernel
theorem dX9_isTruck_11 : decode cX9_isTruck 11 = .ok (.invokestatic 113, 3) := by decide +kernel
theorem dX9_isTruck_14 : decode cX9_isTruck 14 = .ok (.ireturn, 1) := by decide +kernel
theorem dX9_isLoad_0 : decode cX9_isLoad 0 = .ok (.iload_n 1, 1) := by decide +kernel
theorem dX9_isLoad_1 : decode cX9_isLoad 1 = .ok (.iconst 0, 1) := by decide +kernel
theorem dX9_isLoad_2 : decode cX9_isLoad 2 = .ok (.aload_n 0, 1) := by decide +kernel
theorem dX9_isLoad_3 : decode cX9_isLoad 3 = .ok (.invokevirtual 170, 3) := by decide +kernel
theorem dX9_isLoad_6 : decode cX9_isLoad 6 = .ok (.iconst 1, 1) := by decide +kernel
theorem dX9_isLoad_7 : decode cX9_isLoad 7 = .ok (.isub, 1) := by decide +kernel
theorem dX9_isLoad_8 : decode cX9_isLoad 8 = .ok (.invokestatic 113, 3) := by decide +kernel
theorem dX9_isLoad_11 : decode cX9_isLoad 11 = .ok (.ireturn, 1) := by decide +kernel
theorem dX9_isTrip_0 : decode cX9_isTrip 0 = .ok (.iload_n 1, 1) := by decide +kernel
theorem dX9_isTrip_1 : decode cX9_isTrip 1 = .ok (.iconst 0, 1) := by decide +kernel
theorem dX9_isTrip_2 : decode cX9_isTrip 2 = .ok (.aload_n 0, 1) := by decide +kernel
theorem dX9_isTrip_3 : decode cX9_isTrip 3 = .ok (.invokevirtual 173, 3) := by decide +kernel
theorem dX9_isTrip_6 : decode cX9_isTrip 6 = .ok (.iconst 1, 1) := by decide +kernel
theorem dX9_isTrip_7 : decode cX9_isTrip 7 = .ok (.isub, 1) := by decide +kernel
theorem dX9_isTrip_8 : decode cX9_isTrip 8 = .ok (.invokestatic 113, 3) := by decide +kernel
theorem dX9_isTrip_11 : decode cX9_isTrip 11 = .ok (.ireturn, 1) := by decide +kernel
theorem dX9_its_0 : decode cX9_its 0 = .ok (.aload_n 0, 1) := by decide +kernel
theorem dX9_its_1 : decode cX9_its 1 = .ok (.getfield 64, 3) := by decide +kernel
theorem dX9_its_4 : decode cX9_its 4 = .ok (.bipush 101, 2) := by decide +kernel
theorem dX9_its_6 : decode cX9_its 6 = .ok (.bipush 6, 2) := by decide +kernel
theorem dX9_its_8 : decode cX9_its 8 = .ok (.iload_n 1, 1) := by decide +kernel
theorem dX9_its_9 : decode cX9_its 9 = .ok (.imul, 1) := by decide +kernel
theorem dX9_its_10 : decode cX9_its 10 = .ok (.iadd, 1) := by decide +kernel
theorem dX9_its_11 : decode cX9_its 11 = .ok (.iload_n 2, 1) := by decide +kernel
theorem dX9_its_12 : decode cX9_its 12 = .ok (.iadd, 1) := by decide +kernel
theorem dX9_its_13 : decode cX9_its 13 = .ok (.iaload, 1) := by decide +kernel
theorem dX9_its_14 : decode cX9_its 14 = .ok (.ireturn, 1) := by decide +kernel
theorem dX9_laysWeights_0 : decode cX9_laysWeights 0 = .ok (.aload_n 0, 1) := by decide +kernel
theorem dX9_laysWeights_1 : decode cX9_laysWeights 1 = .ok (.aload_n 0, 1) := by decide +kernel
theorem dX9_laysWeights_2 : decode cX9_laysWeights 2 = .ok (.invokevirtual 170, 3) := by decide +kernel
theorem dX9_laysWeights_5 : decode cX9_laysWeights 5 = .ok (.putfield 176, 3) := by decide +kernel
theorem dX9_laysWeights_8 : decode cX9_laysWeights 8 = .ok (.aload_n 0, 1) := by decide +kernel
theorem dX9_laysWeights_9 : decode cX9_laysWeights 9 = .ok (.iconst (-1), 1) := by decide +kernel
theorem dX9_laysWeights_10 : decode cX9_laysWeights 10 = .ok (.putfield 179, 3) := by decide +kernel
theorem dX9_laysWeights_13 : decode cX9_laysWeights 13 = .ok (.iconst 0, 1) := by decide +kernel
theorem dX9_laysWeights_14 : decode cX9_laysWeights 14 = .ok (.istore_n 1, 1) := by decide +kernel
theorem dX9_laysWeights_15 : decode cX9_laysWeights 15 = .ok (.iload_n 1, 1) := by decide +kernel
theorem dX9_laysWeights_16 : decode cX9_laysWeights 16 = .ok (.bipush 17, 2) := by decide +kernel
theorem dX9_laysWeights_18 : decode cX9_laysWeights 18 = .ok (.if_icmp .ge 43, 3) := by decide +kernel
theorem dX9_laysWeights_21 : decode cX9_laysWeights 21 = .ok (.aload_n 0, 1) := by decide +kernel
theorem dX9_laysWeights_22 : decode cX9_laysWeights 22 = .ok (.getfield 73, 3) := by decide +kernel
theorem dX9_laysWeights_25 : decode cX9_laysWeights 25 = .ok (.iload_n 1, 1) := by decide +kernel
theorem dX9_laysWeights_26 : decode cX9_laysWeights 26 = .ok (.iload_n 1, 1) := by decide +kernel
theorem dX9_laysWeights_27 : decode cX9_laysWeights 27 = .ok (.aload_n 0, 1) := by decide +kernel
theorem dX9_laysWeights_28 : decode cX9_laysWeights 28 = .ok (.getfield 176, 3) := by decide +kernel
theorem dX9_laysWeights_31 : decode cX9_laysWeights 31 = .ok (.if_icmp .ge 15, 3) := by decide +kernel
theorem dX9_laysWeights_34 : decode cX9_laysWeights 34 = .ok (.aload_n 0, 1) := by decide +kernel
theorem dX9_laysWeights_35 : decode cX9_laysWeights 35 = .ok (.getfield 64, 3) := by decide +kernel
theorem dX9_laysWeights_38 : decode cX9_laysWeights 38 = .ok (.bipush 20, 2) := by decide +kernel
theorem dX9_laysWeights_40 : decode cX9_laysWeights 40 = .ok (.iload_n 1, 1) := by decide +kernel
theorem dX9_laysWeights_41 : decode cX9_laysWeights 41 = .ok (.iadd, 1) := by decide +kernel
theorem dX9_laysWeights_42 : decode cX9_laysWeights 42 = .ok (.iaload, 1) := by decide +kernel
theorem dX9_laysWeights_43 : decode cX9_laysWeights 43 = .ok (.goto 4, 3) := by decide +kernel
theorem dX9_laysWeights_46 : decode cX9_laysWeights 46 = .ok (.iconst 0, 1) := by decide +kernel
theorem dX9_laysWeights_47 : decode cX9_laysWeights 47 = .ok (.iastore, 1) := by decide +kernel
theorem dX9_laysWeights_48 : decode cX9_laysWeights 48 = .ok (.aload_n 0, 1) := by decide +kernel
theorem dX9_laysWeights_49 : decode cX9_laysWeights 49 = .ok (.getfield 76, 3) := by decide +kernel
theorem dX9_laysWeights_52 : decode cX9_laysWeights 52 = .ok (.iload_n 1, 1) := by decide +kernel
theorem dX9_laysWeights_53 : decode cX9_laysWeights 53 = .ok (.iload_n 1, 1) := by decide +kernel
theorem dX9_laysWeights_54 : decode cX9_laysWeights 54 = .ok (.iastore, 1) := by decide +kernel
theorem dX9_laysWeights_55 : decode cX9_laysWeights 55 = .ok (.iinc 1 1, 3) := by decide +kernel
theorem dX9_laysWeights_58 : decode cX9_laysWeights 58 = .ok (.goto (-43), 3) := by decide +kernel
theorem dX9_laysWeights_61 : decode cX9_laysWeights 61 = .ok (.return_, 1) := by decide +kernel
theorem dX9_partOf_0 : decode cX9_partOf 0 = .ok (.aload_n 0, 1) := by decide +kernel
theorem dX9_partOf_1 : decode cX9_partOf 1 = .ok (.getfield 76, 3) := by decide +kernel
theorem dX9_partOf_4 : decode cX9_partOf 4 = .ok (.iload_n 2, 1) := by decide +kernel
theorem dX9_partOf_5 : decode cX9_partOf 5 = .ok (.iaload, 1) := by decide +kernel
theorem dX9_partOf_6 : decode cX9_partOf 6 = .ok (.istore_n 3, 1) := by decide +kernel
theorem dX9_partOf_7 : decode cX9_partOf 7 = .ok (.iload_n 2, 1) := by decide +kernel
theorem dX9_partOf_8 : decode cX9_partOf 8 = .ok (.aload_n 0, 1) := by decide +kernel
theorem dX9_partOf_9 : decode cX9_partOf 9 = .ok (.getfield 179, 3) := by decide +kernel
theorem dX9_partOf_12 : decode cX9_partOf 12 = .ok (.if_icmp .eq 16, 3) := by decide +kernel
theorem dX9_partOf_15 : decode cX9_partOf 15 = .ok (.aload_n 0, 1) := by decide +kernel
theorem dX9_partOf_16 : decode cX9_partOf 16 = .ok (.iload_n 1, 1) := by decide +kernel
theorem dX9_partOf_17 : decode cX9_partOf 17 = .ok (.iconst 5, 1) := by decide +kernel
theorem dX9_partOf_18 : decode cX9_partOf 18 = .ok (.invokevirtual 182, 3) := by decide +kernel
theorem dX9_partOf_21 : decode cX9_partOf 21 = .ok (.iload_n 3, 1) := by decide +kernel
theorem dX9_partOf_22 : decode cX9_partOf 22 = .ok (.invokestatic 132, 3) := by decide +kernel
theorem dX9_partOf_25 : decode cX9_partOf 25 = .ok (.ifCond .ne 7, 3) := by decide +kernel
theorem dX9_partOf_28 : decode cX9_partOf 28 = .ok (.lconst 0, 1) := by decide +kernel
theorem dX9_partOf_29 : decode cX9_partOf 29 = .ok (.goto 49, 3) := by decide +kernel
theorem dX9_partOf_32 : decode cX9_partOf 32 = .ok (.aload_n 0, 1) := by decide +kernel
theorem dX9_partOf_33 : decode cX9_partOf 33 = .ok (.getfield 73, 3) := by decide +kernel
theorem dX9_partOf_36 : decode cX9_partOf 36 = .ok (.iload_n 2, 1) := by decide +kernel
theorem dX9_partOf_37 : decode cX9_partOf 37 = .ok (.iaload, 1) := by decide +kernel
theorem dX9_partOf_38 : decode cX9_partOf 38 = .ok (.i2l, 1) := by decide +kernel
theorem dX9_partOf_39 : decode cX9_partOf 39 = .ok (.aload_n 0, 1) := by decide +kernel
theorem dX9_partOf_40 : decode cX9_partOf 40 = .ok (.getfield 64, 3) := by decide +kernel
theorem dX9_partOf_43 : decode cX9_partOf 43 = .ok (.aload_n 0, 1) := by decide +kernel
theorem dX9_partOf_44 : decode cX9_partOf 44 = .ok (.getfield 64, 3) := by decide +kernel
theorem dX9_partOf_47 : decode cX9_partOf 47 = .ok (.sipush 197, 3) := by decide +kernel
theorem dX9_partOf_50 : decode cX9_partOf 50 = .ok (.bipush 16, 2) := by decide +kernel
theorem dX9_partOf_52 : decode cX9_partOf 52 = .ok (.iload_n 1, 1) := by decide +kernel
theorem dX9_partOf_53 : decode cX9_partOf 53 = .ok (.imul, 1) := by decide +kernel
theorem dX9_partOf_54 : decode cX9_partOf 54 = .ok (.iadd, 1) := by decide +kernel
theorem dX9_partOf_55 : decode cX9_partOf 55 = .ok (.iload_n 3, 1) := by decide +kernel
theorem dX9_partOf_56 : decode cX9_partOf 56 = .ok (.iadd, 1) := by decide +kernel
theorem dX9_partOf_57 : decode cX9_partOf 57 = .ok (.iaload, 1) := by decide +kernel
theorem dX9_partOf_58 : decode cX9_partOf 58 = .ok (.aload_n 0, 1) := by decide +kernel
theorem dX9_partOf_59 : decode cX9_partOf 59 = .ok (.getfield 64, 3) := by decide +kernel
theorem dX9_partOf_62 : decode cX9_partOf 62 = .ok (.sipush 453, 3) := by decide +kernel
theorem dX9_partOf_65 : decode cX9_partOf 65 = .ok (.bipush 16, 2) := by decide +kernel
theorem dX9_partOf_67 : decode cX9_partOf 67 = .ok (.iload_n 1, 1) := by decide +kernel
theorem dX9_partOf_68 : decode cX9_partOf 68 = .ok (.imul, 1) := by decide +kernel
theorem dX9_partOf_69 : decode cX9_partOf 69 = .ok (.iadd, 1) := by decide +kernel
theorem dX9_partOf_70 : decode cX9_partOf 70 = .ok (.iload_n 3, 1) := by decide +kernel
theorem dX9_partOf_71 : decode cX9_partOf 71 = .ok (.iadd, 1) := by decide +kernel
theorem dX9_partOf_72 : decode cX9_partOf 72 = .ok (.iaload, 1) := by decide +kernel
theorem dX9_partOf_73 : decode cX9_partOf 73 = .ok (.invokestatic 128, 3) := by decide +kernel
theorem dX9_partOf_76 : decode cX9_partOf 76 = .ok (.i2l, 1) := by decide +kernel
theorem dX9_partOf_77 : decode cX9_partOf 77 = .ok (.lmul, 1) := by decide +kernel
theorem dX9_partOf_78 : decode cX9_partOf 78 = .ok (.lreturn, 1) := by decide +kernel
theorem dX9_partsOf_0 : decode cX9_partsOf 0 = .ok (.lconst 0, 1) := by decide +kernel
theorem dX9_partsOf_1 : decode cX9_partsOf 1 = .ok (.lstore_n 2, 1) := by decide +kernel
theorem dX9_partsOf_2 : decode cX9_partsOf 2 = .ok (.iconst 0, 1) := by decide +kernel
theorem dX9_partsOf_3 : decode cX9_partsOf 3 = .ok (.istore 4, 2) := by decide +kernel
theorem dX9_partsOf_5 : decode cX9_partsOf 5 = .ok (.iload 4, 2) := by decide +kernel
theorem dX9_partsOf_7 : decode cX9_partsOf 7 = .ok (.aload_n 0, 1) := by decide +kernel
theorem dX9_partsOf_8 : decode cX9_partsOf 8 = .ok (.getfield 176, 3) := by decide +kernel
theorem dX9_partsOf_11 : decode cX9_partsOf 11 = .ok (.if_icmp .ge 19, 3) := by decide +kernel
theorem dX9_partsOf_14 : decode cX9_partsOf 14 = .ok (.lload_n 2, 1) := by decide +kernel
theorem dX9_partsOf_15 : decode cX9_partsOf 15 = .ok (.aload_n 0, 1) := by decide +kernel
theorem dX9_partsOf_16 : decode cX9_partsOf 16 = .ok (.iload_n 1, 1) := by decide +kernel
theorem dX9_partsOf_17 : decode cX9_partsOf 17 = .ok (.iload 4, 2) := by decide +kernel
theorem dX9_partsOf_19 : decode cX9_partsOf 19 = .ok (.invokevirtual 186, 3) := by decide +kernel
theorem dX9_partsOf_22 : decode cX9_partsOf 22 = .ok (.ladd, 1) := by decide +kernel
theorem dX9_partsOf_23 : decode cX9_partsOf 23 = .ok (.lstore_n 2, 1) := by decide +kernel
theorem dX9_partsOf_24 : decode cX9_partsOf 24 = .ok (.iinc 4 1, 3) := by decide +kernel
theorem dX9_partsOf_27 : decode cX9_partsOf 27 = .ok (.goto (-22), 3) := by decide +kernel
theorem dX9_partsOf_30 : decode cX9_partsOf 30 = .ok (.lload_n 2, 1) := by decide +kernel
theorem dX9_partsOf_31 : decode cX9_partsOf 31 = .ok (.lreturn, 1) := by decide +kernel
theorem dX9_parts_0 : decode cX9_parts 0 = .ok (.lconst 0, 1) := by decide +kernel
theorem dX9_parts_1 : decode cX9_parts 1 = .ok (.lstore_n 3, 1) := by decide +kernel
theorem dX9_parts_2 : decode cX9_parts 2 = .ok (.iconst 0, 1) := by decide +kernel
theorem dX9_parts_3 : decode cX9_parts 3 = .ok (.istore 5, 2) := by decide +kernel
theorem dX9_parts_5 : decode cX9_parts 5 = .ok (.iload 5, 2) := by decide +kernel
theorem dX9_parts_7 : decode cX9_parts 7 = .ok (.iload_n 2, 1) := by decide +kernel
theorem dX9_parts_8 : decode cX9_parts 8 = .ok (.if_icmp .ge 19, 3) := by decide +kernel
theorem dX9_parts_11 : decode cX9_parts 11 = .ok (.lload_n 3, 1) := by decide +kernel
theorem dX9_parts_12 : decode cX9_parts 12 = .ok (.aload_n 0, 1) := by decide +kernel
theorem dX9_parts_13 : decode cX9_parts 13 = .ok (.getfield 100, 3) := by decide +kernel
theorem dX9_parts_16 : decode cX9_parts 16 = .ok (.iload 5, 2) := by decide +kernel
theorem dX9_parts_18 : decode cX9_parts 18 = .ok (.laload, 1) := by decide +kernel
theorem dX9_parts_19 : decode cX9_parts 19 = .ok (.ladd, 1) := by decide +kernel
theorem dX9_parts_20 : decode cX9_parts 20 = .ok (.lstore_n 3, 1) := by decide +kernel
theorem dX9_parts_21 : decode cX9_parts 21 = .ok (.iinc 5 1, 3) := by decide +kernel
theorem dX9_parts_24 : decode cX9_parts 24 = .ok (.goto (-19), 3) := by decide +kernel
theorem dX9_parts_27 : decode cX9_parts 27 = .ok (.iload_n 1, 1) := by decide +kernel
theorem dX9_parts_28 : decode cX9_parts 28 = .ok (.istore 5, 2) := by decide +kernel
theorem dX9_parts_30 : decode cX9_parts 30 = .ok (.iconst 0, 1) := by decide +kernel
theorem dX9_parts_31 : decode cX9_parts 31 = .ok (.istore 6, 2) := by decide +kernel
theorem dX9_parts_33 : decode cX9_parts 33 = .ok (.iload 6, 2) := by decide +kernel
theorem dX9_parts_35 : decode cX9_parts 35 = .ok (.iload_n 2, 1) := by decide +kernel
theorem dX9_parts_36 : decode cX9_parts 36 = .ok (.if_icmp .ge 84, 3) := by decide +kernel
theorem dX9_parts_39 : decode cX9_parts 39 = .ok (.aload_n 0, 1) := by decide +kernel
theorem dX9_parts_40 : decode cX9_parts 40 = .ok (.getfield 94, 3) := by decide +kernel
theorem dX9_parts_43 : decode cX9_parts 43 = .ok (.iload 6, 2) := by decide +kernel
theorem dX9_parts_45 : decode cX9_parts 45 = .ok (.lload_n 3, 1) := by decide +kernel
theorem dX9_parts_46 : decode cX9_parts 46 = .ok (.lconst 0, 1) := by decide +kernel
theorem dX9_parts_47 : decode cX9_parts 47 = .ok (.lcmp, 1) := by decide +kernel
theorem dX9_parts_48 : decode cX9_parts 48 = .ok (.ifCond .ne 7, 3) := by decide +kernel
theorem dX9_parts_51 : decode cX9_parts 51 = .ok (.iconst 0, 1) := by decide +kernel
theorem dX9_parts_52 : decode cX9_parts 52 = .ok (.goto 16, 3) := by decide +kernel
theorem dX9_parts_55 : decode cX9_parts 55 = .ok (.iload_n 1, 1) := by decide +kernel
theorem dX9_parts_56 : decode cX9_parts 56 = .ok (.i2l, 1) := by decide +kernel
theorem dX9_parts_57 : decode cX9_parts 57 = .ok (.aload_n 0, 1) := by decide +kernel
theorem dX9_parts_58 : decode cX9_parts 58 = .ok (.getfield 100, 3) := by decide +kernel
theorem dX9_parts_61 : decode cX9_parts 61 = .ok (.iload 6, 2) := by decide +kernel
theorem dX9_parts_63 : decode cX9_parts 63 = .ok (.laload, 1) := by decide +kernel
theorem dX9_parts_64 : decode cX9_parts 64 = .ok (.lmul, 1) := by decide +kernel
theorem dX9_parts_65 : decode cX9_parts 65 = .ok (.lload_n 3, 1) := by decide +kernel
theorem dX9_parts_66 : decode cX9_parts 66 = .ok (.ldiv, 1) := by decide +kernel
theorem dX9_parts_67 : decode cX9_parts 67 = .ok (.l2i, 1) := by decide +kernel
theorem dX9_parts_68 : decode cX9_parts 68 = .ok (.iastore, 1) := by decide +kernel
theorem dX9_parts_69 : decode cX9_parts 69 = .ok (.aload_n 0, 1) := by decide +kernel
theorem dX9_parts_70 : decode cX9_parts 70 = .ok (.getfield 104, 3) := by decide +kernel
theorem dX9_parts_73 : decode cX9_parts 73 = .ok (.iload 6, 2) := by decide +kernel
theorem dX9_parts_75 : decode cX9_parts 75 = .ok (.lload_n 3, 1) := by decide +kernel
theorem dX9_parts_76 : decode cX9_parts 76 = .ok (.lconst 0, 1) := by decide +kernel
theorem dX9_parts_77 : decode cX9_parts 77 = .ok (.lcmp, 1) := by decide +kernel
theorem dX9_parts_78 : decode cX9_parts 78 = .ok (.ifCond .ne 11, 3) := by decide +kernel
theorem dX9_parts_81 : decode cX9_parts 81 = .ok (.iload_n 2, 1) := by decide +kernel
theorem dX9_parts_82 : decode cX9_parts 82 = .ok (.iload 6, 2) := by decide +kernel
theorem dX9_parts_84 : decode cX9_parts 84 = .ok (.isub, 1) := by decide +kernel
theorem dX9_parts_85 : decode cX9_parts 85 = .ok (.i2l, 1) := by decide +kernel
theorem dX9_parts_86 : decode cX9_parts 86 = .ok (.goto 15, 3) := by decide +kernel
theorem dX9_parts_89 : decode cX9_parts 89 = .ok (.iload_n 1, 1) := by decide +kernel
theorem dX9_parts_90 : decode cX9_parts 90 = .ok (.i2l, 1) := by decide +kernel
theorem dX9_parts_91 : decode cX9_parts 91 = .ok (.aload_n 0, 1) := by decide +kernel
theorem dX9_parts_92 : decode cX9_parts 92 = .ok (.getfield 100, 3) := by decide +kernel
theorem dX9_parts_95 : decode cX9_parts 95 = .ok (.iload 6, 2) := by decide +kernel
theorem dX9_parts_97 : decode cX9_parts 97 = .ok (.laload, 1) := by decide +kernel
theorem dX9_parts_98 : decode cX9_parts 98 = .ok (.lmul, 1) := by decide +kernel
theorem dX9_parts_99 : decode cX9_parts 99 = .ok (.lload_n 3, 1) := by decide +kernel
theorem dX9_parts_100 : decode cX9_parts 100 = .ok (.lrem, 1) := by decide +kernel
theorem dX9_parts_101 : decode cX9_parts 101 = .ok (.lastore, 1) := by decide +kernel
theorem dX9_parts_102 : decode cX9_parts 102 = .ok (.iload 5, 2) := by decide +kernel
theorem dX9_parts_104 : decode cX9_parts 104 = .ok (.aload_n 0, 1) := by decide +kernel
theorem dX9_parts_105 : decode cX9_parts 105 = .ok (.getfield 94, 3) := by decide +kernel
theorem dX9_parts_108 : decode cX9_parts 108 = .ok (.iload 6, 2) := by decide +kernel
theorem dX9_parts_110 : decode cX9_parts 110 = .ok (.iaload, 1) := by decide +kernel
theorem dX9_parts_111 : decode cX9_parts 111 = .ok (.isub, 1) := by decide +kernel
theorem dX9_parts_112 : decode cX9_parts 112 = .ok (.istore 5, 2) := by decide +kernel
theorem dX9_parts_114 : decode cX9_parts 114 = .ok (.iinc 6 1, 3) := by decide +kernel
theorem dX9_parts_117 : decode cX9_parts 117 = .ok (.goto (-84), 3) := by decide +kernel
theorem dX9_parts_120 : decode cX9_parts 120 = .ok (.lload_n 3, 1) := by decide +kernel
theorem dX9_parts_121 : decode cX9_parts 121 = .ok (.lconst 0, 1) := by decide +kernel
theorem dX9_parts_122 : decode cX9_parts 122 = .ok (.lcmp, 1) := by decide +kernel
theorem dX9_parts_123 : decode cX9_parts 123 = .ok (.ifCond .ne 11, 3) := by decide +kernel
theorem dX9_parts_126 : decode cX9_parts 126 = .ok (.aload_n 0, 1) := by decide +kernel
theorem dX9_parts_127 : decode cX9_parts 127 = .ok (.getfield 94, 3) := by decide +kernel
theorem dX9_parts_130 : decode cX9_parts 130 = .ok (.iconst 0, 1) := by decide +kernel
theorem dX9_parts_131 : decode cX9_parts 131 = .ok (.iload_n 1, 1) := by decide +kernel
theorem dX9_parts_132 : decode cX9_parts 132 = .ok (.iastore, 1) := by decide +kernel
theorem dX9_parts_133 : decode cX9_parts 133 = .ok (.return_, 1) := by decide +kernel
theorem dX9_parts_134 : decode cX9_parts 134 = .ok (.iload 5, 2) := by decide +kernel
theorem dX9_parts_136 : decode cX9_parts 136 = .ok (.ifCond .le 70, 3) := by decide +kernel
theorem dX9_parts_139 : decode cX9_parts 139 = .ok (.iconst 0, 1) := by decide +kernel
theorem dX9_parts_140 : decode cX9_parts 140 = .ok (.istore 6, 2) := by decide +kernel
theorem dX9_parts_142 : decode cX9_parts 142 = .ok (.iconst 1, 1) := by decide +kernel
theorem dX9_parts_143 : decode cX9_parts 143 = .ok (.istore 7, 2) := by decide +kernel
theorem dX9_parts_145 : decode cX9_parts 145 = .ok (.iload 7, 2) := by decide +kernel
theorem dX9_parts_147 : decode cX9_parts 147 = .ok (.iload_n 2, 1) := by decide +kernel
theorem dX9_parts_148 : decode cX9_parts 148 = .ok (.if_icmp .ge 31, 3) := by decide +kernel
theorem dX9_parts_151 : decode cX9_parts 151 = .ok (.aload_n 0, 1) := by decide +kernel
theorem dX9_parts_152 : decode cX9_parts 152 = .ok (.getfield 104, 3) := by decide +kernel
theorem dX9_parts_155 : decode cX9_parts 155 = .ok (.iload 7, 2) := by decide +kernel
theorem dX9_parts_157 : decode cX9_parts 157 = .ok (.laload, 1) := by decide +kernel
theorem dX9_parts_158 : decode cX9_parts 158 = .ok (.aload_n 0, 1) := by decide +kernel
theorem dX9_parts_159 : decode cX9_parts 159 = .ok (.getfield 104, 3) := by decide +kernel
theorem dX9_parts_162 : decode cX9_parts 162 = .ok (.iload 6, 2) := by decide +kernel
theorem dX9_parts_164 : decode cX9_parts 164 = .ok (.laload, 1) := by decide +kernel
theorem dX9_parts_165 : decode cX9_parts 165 = .ok (.lcmp, 1) := by decide +kernel
theorem dX9_parts_166 : decode cX9_parts 166 = .ok (.ifCond .le 7, 3) := by decide +kernel
theorem dX9_parts_169 : decode cX9_parts 169 = .ok (.iload 7, 2) := by decide +kernel
theorem dX9_parts_171 : decode cX9_parts 171 = .ok (.istore 6, 2) := by decide +kernel
theorem dX9_parts_173 : decode cX9_parts 173 = .ok (.iinc 7 1, 3) := by decide +kernel
theorem dX9_parts_176 : decode cX9_parts 176 = .ok (.goto (-31), 3) := by decide +kernel
theorem dX9_parts_179 : decode cX9_parts 179 = .ok (.aload_n 0, 1) := by decide +kernel
theorem dX9_parts_180 : decode cX9_parts 180 = .ok (.getfield 94, 3) := by decide +kernel
theorem dX9_parts_183 : decode cX9_parts 183 = .ok (.iload 6, 2) := by decide +kernel
theorem dX9_parts_185 : decode cX9_parts 185 = .ok (.dup2, 1) := by decide +kernel
theorem dX9_parts_186 : decode cX9_parts 186 = .ok (.iaload, 1) := by decide +kernel
theorem dX9_parts_187 : decode cX9_parts 187 = .ok (.iconst 1, 1) := by decide +kernel
theorem dX9_parts_188 : decode cX9_parts 188 = .ok (.iadd, 1) := by decide +kernel
theorem dX9_parts_189 : decode cX9_parts 189 = .ok (.iastore, 1) := by decide +kernel
theorem dX9_parts_190 : decode cX9_parts 190 = .ok (.aload_n 0, 1) := by decide +kernel
theorem dX9_parts_191 : decode cX9_parts 191 = .ok (.getfield 104, 3) := by decide +kernel
theorem dX9_parts_194 : decode cX9_parts 194 = .ok (.iload 6, 2) := by decide +kernel
theorem dX9_parts_196 : decode cX9_parts 196 = .ok (.ldc2_w 190, 3) := by decide +kernel
theorem dX9_parts_199 : decode cX9_parts 199 = .ok (.lastore, 1) := by decide +kernel
theorem dX9_parts_200 : decode cX9_parts 200 = .ok (.iinc 5 (-1), 3) := by decide +kernel
theorem dX9_parts_203 : decode cX9_parts 203 = .ok (.goto (-69), 3) := by decide +kernel
theorem dX9_parts_206 : decode cX9_parts 206 = .ok (.return_, 1) := by decide +kernel
theorem dX9_estimateOf_0 : decode cX9_estimateOf 0 = .ok (.aload_n 0, 1) := by decide +kernel
theorem dX9_estimateOf_1 : decode cX9_estimateOf 1 = .ok (.getfield 64, 3) := by decide +kernel
theorem dX9_estimateOf_4 : decode cX9_estimateOf 4 = .ok (.iconst 4, 1) := by decide +kernel
theorem dX9_estimateOf_5 : decode cX9_estimateOf 5 = .ok (.iload_n 1, 1) := by decide +kernel
theorem dX9_estimateOf_6 : decode cX9_estimateOf 6 = .ok (.iadd, 1) := by decide +kernel
theorem dX9_estimateOf_7 : decode cX9_estimateOf 7 = .ok (.iaload, 1) := by decide +kernel
theorem dX9_estimateOf_8 : decode cX9_estimateOf 8 = .ok (.istore_n 2, 1) := by decide +kernel
theorem dX9_estimateOf_9 : decode cX9_estimateOf 9 = .ok (.iload_n 2, 1) := by decide +kernel
theorem dX9_estimateOf_10 : decode cX9_estimateOf 10 = .ok (.iconst (-1), 1) := by decide +kernel
theorem dX9_estimateOf_11 : decode cX9_estimateOf 11 = .ok (.if_icmp .eq 7, 3) := by decide +kernel
theorem dX9_estimateOf_14 : decode cX9_estimateOf 14 = .ok (.iload_n 2, 1) := by decide +kernel
theorem dX9_estimateOf_15 : decode cX9_estimateOf 15 = .ok (.goto 30, 3) := by decide +kernel
theorem dX9_estimateOf_18 : decode cX9_estimateOf 18 = .ok (.aload_n 0, 1) := by decide +kernel
theorem dX9_estimateOf_19 : decode cX9_estimateOf 19 = .ok (.getfield 64, 3) := by decide +kernel
theorem dX9_estimateOf_22 : decode cX9_estimateOf 22 = .ok (.bipush 65, 2) := by decide +kernel
theorem dX9_estimateOf_24 : decode cX9_estimateOf 24 = .ok (.aload_n 0, 1) := by decide +kernel
theorem dX9_estimateOf_25 : decode cX9_estimateOf 25 = .ok (.iload_n 1, 1) := by decide +kernel
theorem dX9_estimateOf_26 : decode cX9_estimateOf 26 = .ok (.iconst 0, 1) := by decide +kernel
theorem dX9_estimateOf_27 : decode cX9_estimateOf 27 = .ok (.invokevirtual 182, 3) := by decide +kernel
theorem dX9_estimateOf_30 : decode cX9_estimateOf 30 = .ok (.iadd, 1) := by decide +kernel
theorem dX9_estimateOf_31 : decode cX9_estimateOf 31 = .ok (.iaload, 1) := by decide +kernel
theorem dX9_estimateOf_32 : decode cX9_estimateOf 32 = .ok (.aload_n 0, 1) := by decide +kernel
theorem dX9_estimateOf_33 : decode cX9_estimateOf 33 = .ok (.iload_n 1, 1) := by decide +kernel
theorem dX9_estimateOf_34 : decode cX9_estimateOf 34 = .ok (.iconst 1, 1) := by decide +kernel
theorem dX9_estimateOf_35 : decode cX9_estimateOf 35 = .ok (.invokevirtual 182, 3) := by decide +kernel
theorem dX9_estimateOf_38 : decode cX9_estimateOf 38 = .ok (.imul, 1) := by decide +kernel
theorem dX9_estimateOf_39 : decode cX9_estimateOf 39 = .ok (.bipush 99, 2) := by decide +kernel
theorem dX9_estimateOf_41 : decode cX9_estimateOf 41 = .ok (.iadd, 1) := by decide +kernel
theorem dX9_estimateOf_42 : decode cX9_estimateOf 42 = .ok (.bipush 100, 2) := by decide +kernel
theorem dX9_estimateOf_44 : decode cX9_estimateOf 44 = .ok (.idiv, 1) := by decide +kernel
theorem dX9_estimateOf_45 : decode cX9_estimateOf 45 = .ok (.ireturn, 1) := by decide +kernel
theorem dX9_closes_0 : decode cX9_closes 0 = .ok (.iconst 0, 1) := by decide +kernel
theorem dX9_closes_1 : decode cX9_closes 1 = .ok (.istore_n 2, 1) := by decide +kernel
theorem dX9_closes_2 : decode cX9_closes 2 = .ok (.iconst 0, 1) := by decide +kernel
theorem dX9_closes_3 : decode cX9_closes 3 = .ok (.istore_n 3, 1) := by decide +kernel
theorem dX9_closes_4 : decode cX9_closes 4 = .ok (.iconst 0, 1) := by decide +kernel
theorem dX9_closes_5 : decode cX9_closes 5 = .ok (.istore 4, 2) := by decide +kernel
theorem dX9_closes_7 : decode cX9_closes 7 = .ok (.iconst 0, 1) := by decide +kernel
theorem dX9_closes_8 : decode cX9_closes 8 = .ok (.istore 5, 2) := by decide +kernel
theorem dX9_closes_10 : decode cX9_closes 10 = .ok (.iload 5, 2) := by decide +kernel
theorem dX9_closes_12 : decode cX9_closes 12 = .ok (.aload_n 0, 1) := by decide +kernel
theorem dX9_closes_13 : decode cX9_closes 13 = .ok (.invokevirtual 173, 3) := by decide +kernel
theorem dX9_closes_16 : decode cX9_closes 16 = .ok (.if_icmp .ge 63, 3) := by decide +kernel
theorem dX9_closes_19 : decode cX9_closes 19 = .ok (.aload_n 0, 1) := by decide +kernel
theorem dX9_closes_20 : decode cX9_closes 20 = .ok (.iload 5, 2) := by decide +kernel
theorem dX9_closes_22 : decode cX9_closes 22 = .ok (.iconst 0, 1) := by decide +kernel
theorem dX9_closes_23 : decode cX9_closes 23 = .ok (.invokevirtual 182, 3) := by decide +kernel
theorem dX9_closes_26 : decode cX9_closes 26 = .ok (.iload_n 1, 1) := by decide +kernel
theorem dX9_closes_27 : decode cX9_closes 27 = .ok (.if_icmp .eq 6, 3) := by decide +kernel
theorem dX9_closes_30 : decode cX9_closes 30 = .ok (.goto 43, 3) := by decide +kernel
theorem dX9_closes_33 : decode cX9_closes 33 = .ok (.iinc 4 1, 3) := by decide +kernel
theorem dX9_closes_36 : decode cX9_closes 36 = .ok (.aload_n 0, 1) := by decide +kernel
theorem dX9_closes_37 : decode cX9_closes 37 = .ok (.getfield 64, 3) := by decide +kernel
theorem dX9_closes_40 : decode cX9_closes 40 = .ok (.iconst 4, 1) := by decide +kernel
theorem dX9_closes_41 : decode cX9_closes 41 = .ok (.iload 5, 2) := by decide +kernel
theorem dX9_closes_43 : decode cX9_closes 43 = .ok (.iadd, 1) := by decide +kernel
theorem dX9_closes_44 : decode cX9_closes 44 = .ok (.iaload, 1) := by decide +kernel
theorem dX9_closes_45 : decode cX9_closes 45 = .ok (.iconst (-1), 1) := by decide +kernel
theorem dX9_closes_46 : decode cX9_closes 46 = .ok (.if_icmp .ne 15, 3) := by decide +kernel
theorem dX9_closes_49 : decode cX9_closes 49 = .ok (.iload_n 2, 1) := by decide +kernel
theorem dX9_closes_50 : decode cX9_closes 50 = .ok (.aload_n 0, 1) := by decide +kernel
theorem dX9_closes_51 : decode cX9_closes 51 = .ok (.iload 5, 2) := by decide +kernel
theorem dX9_closes_53 : decode cX9_closes 53 = .ok (.invokevirtual 192, 3) := by decide +kernel
theorem dX9_closes_56 : decode cX9_closes 56 = .ok (.iadd, 1) := by decide +kernel
theorem dX9_closes_57 : decode cX9_closes 57 = .ok (.istore_n 2, 1) := by decide +kernel
theorem dX9_closes_58 : decode cX9_closes 58 = .ok (.goto 15, 3) := by decide +kernel
theorem dX9_closes_61 : decode cX9_closes 61 = .ok (.iload_n 3, 1) := by decide +kernel
theorem dX9_closes_62 : decode cX9_closes 62 = .ok (.aload_n 0, 1) := by decide +kernel
theorem dX9_closes_63 : decode cX9_closes 63 = .ok (.getfield 64, 3) := by decide +kernel
theorem dX9_closes_66 : decode cX9_closes 66 = .ok (.iconst 4, 1) := by decide +kernel
theorem dX9_closes_67 : decode cX9_closes 67 = .ok (.iload 5, 2) := by decide +kernel
theorem dX9_closes_69 : decode cX9_closes 69 = .ok (.iadd, 1) := by decide +kernel
theorem dX9_closes_70 : decode cX9_closes 70 = .ok (.iaload, 1) := by decide +kernel
theorem dX9_closes_71 : decode cX9_closes 71 = .ok (.iadd, 1) := by decide +kernel
theorem dX9_closes_72 : decode cX9_closes 72 = .ok (.istore_n 3, 1) := by decide +kernel
theorem dX9_closes_73 : decode cX9_closes 73 = .ok (.iinc 5 1, 3) := by decide +kernel
theorem dX9_closes_76 : decode cX9_closes 76 = .ok (.goto (-66), 3) := by decide +kernel
theorem dX9_closes_79 : decode cX9_closes 79 = .ok (.aload_n 0, 1) := by decide +kernel
theorem dX9_closes_80 : decode cX9_closes 80 = .ok (.getfield 64, 3) := by decide +kernel
theorem dX9_closes_83 : decode cX9_closes 83 = .ok (.iconst 0, 1) := by decide +kernel
theorem dX9_closes_84 : decode cX9_closes 84 = .ok (.iload_n 1, 1) := by decide +kernel
theorem dX9_closes_85 : decode cX9_closes 85 = .ok (.iadd, 1) := by decide +kernel
theorem dX9_closes_86 : decode cX9_closes 86 = .ok (.iaload, 1) := by decide +kernel
theorem dX9_closes_87 : decode cX9_closes 87 = .ok (.istore 5, 2) := by decide +kernel
theorem dX9_closes_89 : decode cX9_closes 89 = .ok (.iload 4, 2) := by decide +kernel
theorem dX9_closes_91 : decode cX9_closes 91 = .ok (.ifCond .ne 15, 3) := by decide +kernel
theorem dX9_closes_94 : decode cX9_closes 94 = .ok (.aload_n 0, 1) := by decide +kernel
theorem dX9_closes_95 : decode cX9_closes 95 = .ok (.dup, 1) := by decide +kernel
theorem dX9_closes_96 : decode cX9_closes 96 = .ok (.getfield 195, 3) := by decide +kernel
theorem dX9_closes_99 : decode cX9_closes 99 = .ok (.iload 5, 2) := by decide +kernel
theorem dX9_closes_101 : decode cX9_closes 101 = .ok (.iadd, 1) := by decide +kernel
theorem dX9_closes_102 : decode cX9_closes 102 = .ok (.putfield 195, 3) := by decide +kernel
theorem dX9_closes_105 : decode cX9_closes 105 = .ok (.return_, 1) := by decide +kernel
theorem dX9_closes_106 : decode cX9_closes 106 = .ok (.iload_n 2, 1) := by decide +kernel
theorem dX9_closes_107 : decode cX9_closes 107 = .ok (.ifCond .le 13, 3) := by decide +kernel
theorem dX9_closes_110 : decode cX9_closes 110 = .ok (.iload_n 3, 1) := by decide +kernel
theorem dX9_closes_111 : decode cX9_closes 111 = .ok (.iload 5, 2) := by decide +kernel
theorem dX9_closes_113 : decode cX9_closes 113 = .ok (.if_icmp .gt 7, 3) := by decide +kernel
theorem dX9_closes_116 : decode cX9_closes 116 = .ok (.iconst 1, 1) := by decide +kernel
theorem dX9_closes_117 : decode cX9_closes 117 = .ok (.goto 4, 3) := by decide +kernel
theorem dX9_closes_120 : decode cX9_closes 120 = .ok (.iconst 0, 1) := by decide +kernel
theorem dX9_closes_121 : decode cX9_closes 121 = .ok (.istore 6, 2) := by decide +kernel
theorem dX9_closes_123 : decode cX9_closes 123 = .ok (.iconst 0, 1) := by decide +kernel
theorem dX9_closes_124 : decode cX9_closes 124 = .ok (.istore 7, 2) := by decide +kernel
theorem dX9_closes_126 : decode cX9_closes 126 = .ok (.iconst 0, 1) := by decide +kernel
theorem dX9_closes_127 : decode cX9_closes 127 = .ok (.istore 8, 2) := by decide +kernel
theorem dX9_closes_129 : decode cX9_closes 129 = .ok (.iload 8, 2) := by decide +kernel
theorem dX9_closes_131 : decode cX9_closes 131 = .ok (.aload_n 0, 1) := by decide +kernel
theorem dX9_closes_132 : decode cX9_closes 132 = .ok (.invokevirtual 173, 3) := by decide +kernel
theorem dX9_closes_135 : decode cX9_closes 135 = .ok (.if_icmp .ge 67, 3) := by decide +kernel
theorem dX9_closes_138 : decode cX9_closes 138 = .ok (.aload_n 0, 1) := by decide +kernel
theorem dX9_closes_139 : decode cX9_closes 139 = .ok (.iload 8, 2) := by decide +kernel
theorem dX9_closes_141 : decode cX9_closes 141 = .ok (.iconst 0, 1) := by decide +kernel
theorem dX9_closes_142 : decode cX9_closes 142 = .ok (.invokevirtual 182, 3) := by decide +kernel
theorem dX9_closes_145 : decode cX9_closes 145 = .ok (.iload_n 1, 1) := by decide +kernel
theorem dX9_closes_146 : decode cX9_closes 146 = .ok (.if_icmp .ne 50, 3) := by decide +kernel
theorem dX9_closes_149 : decode cX9_closes 149 = .ok (.iload 6, 2) := by decide +kernel
theorem dX9_closes_151 : decode cX9_closes 151 = .ok (.ifCond .eq 19, 3) := by decide +kernel
theorem dX9_closes_154 : decode cX9_closes 154 = .ok (.aload_n 0, 1) := by decide +kernel
theorem dX9_closes_155 : decode cX9_closes 155 = .ok (.getfield 64, 3) := by decide +kernel
theorem dX9_closes_158 : decode cX9_closes 158 = .ok (.iconst 4, 1) := by decide +kernel
theorem dX9_closes_159 : decode cX9_closes 159 = .ok (.iload 8, 2) := by decide +kernel
theorem dX9_closes_161 : decode cX9_closes 161 = .ok (.iadd, 1) := by decide +kernel
theorem dX9_closes_162 : decode cX9_closes 162 = .ok (.iaload, 1) := by decide +kernel
theorem dX9_closes_163 : decode cX9_closes 163 = .ok (.iconst (-1), 1) := by decide +kernel
theorem dX9_closes_164 : decode cX9_closes 164 = .ok (.if_icmp .eq 6, 3) := by decide +kernel
theorem dX9_closes_167 : decode cX9_closes 167 = .ok (.goto 29, 3) := by decide +kernel
theorem dX9_closes_170 : decode cX9_closes 170 = .ok (.aload_n 0, 1) := by decide +kernel
theorem dX9_closes_171 : decode cX9_closes 171 = .ok (.getfield 100, 3) := by decide +kernel
theorem dX9_closes_174 : decode cX9_closes 174 = .ok (.iload 7, 2) := by decide +kernel
theorem dX9_closes_176 : decode cX9_closes 176 = .ok (.aload_n 0, 1) := by decide +kernel
theorem dX9_closes_177 : decode cX9_closes 177 = .ok (.iload 8, 2) := by decide +kernel
theorem dX9_closes_179 : decode cX9_closes 179 = .ok (.invokevirtual 192, 3) := by decide +kernel
theorem dX9_closes_182 : decode cX9_closes 182 = .ok (.i2l, 1) := by decide +kernel
theorem dX9_closes_183 : decode cX9_closes 183 = .ok (.lastore, 1) := by decide +kernel
theorem dX9_closes_184 : decode cX9_closes 184 = .ok (.aload_n 0, 1) := by decide +kernel
theorem dX9_closes_185 : decode cX9_closes 185 = .ok (.getfield 97, 3) := by decide +kernel
theorem dX9_closes_188 : decode cX9_closes 188 = .ok (.iload 7, 2) := by decide +kernel
theorem dX9_closes_190 : decode cX9_closes 190 = .ok (.iload 8, 2) := by decide +kernel
theorem dX9_closes_192 : decode cX9_closes 192 = .ok (.iastore, 1) := by decide +kernel
theorem dX9_closes_193 : decode cX9_closes 193 = .ok (.iinc 7 1, 3) := by decide +kernel
theorem dX9_closes_196 : decode cX9_closes 196 = .ok (.iinc 8 1, 3) := by decide +kernel
theorem dX9_closes_199 : decode cX9_closes 199 = .ok (.goto (-70), 3) := by decide +kernel
theorem dX9_closes_202 : decode cX9_closes 202 = .ok (.iconst 0, 1) := by decide +kernel
theorem dX9_closes_203 : decode cX9_closes 203 = .ok (.istore 8, 2) := by decide +kernel
theorem dX9_closes_205 : decode cX9_closes 205 = .ok (.iload 8, 2) := by decide +kernel
theorem dX9_closes_207 : decode cX9_closes 207 = .ok (.aload_n 0, 1) := by decide +kernel
theorem dX9_closes_208 : decode cX9_closes 208 = .ok (.invokevirtual 173, 3) := by decide +kernel
theorem dX9_closes_211 : decode cX9_closes 211 = .ok (.if_icmp .ge 36, 3) := by decide +kernel
theorem dX9_closes_214 : decode cX9_closes 214 = .ok (.aload_n 0, 1) := by decide +kernel
theorem dX9_closes_215 : decode cX9_closes 215 = .ok (.iload 8, 2) := by decide +kernel
theorem dX9_closes_217 : decode cX9_closes 217 = .ok (.iconst 0, 1) := by decide +kernel
theorem dX9_closes_218 : decode cX9_closes 218 = .ok (.invokevirtual 182, 3) := by decide +kernel
theorem dX9_closes_221 : decode cX9_closes 221 = .ok (.iload_n 1, 1) := by decide +kernel
theorem dX9_closes_222 : decode cX9_closes 222 = .ok (.if_icmp .ne 19, 3) := by decide +kernel
theorem dX9_closes_225 : decode cX9_closes 225 = .ok (.aload_n 0, 1) := by decide +kernel
theorem dX9_closes_226 : decode cX9_closes 226 = .ok (.getfield 79, 3) := by decide +kernel
theorem dX9_closes_229 : decode cX9_closes 229 = .ok (.iload 8, 2) := by decide +kernel
theorem dX9_closes_231 : decode cX9_closes 231 = .ok (.aload_n 0, 1) := by decide +kernel
theorem dX9_closes_232 : decode cX9_closes 232 = .ok (.getfield 64, 3) := by decide +kernel
theorem dX9_closes_235 : decode cX9_closes 235 = .ok (.iconst 4, 1) := by decide +kernel
theorem dX9_closes_236 : decode cX9_closes 236 = .ok (.iload 8, 2) := by decide +kernel
theorem dX9_closes_238 : decode cX9_closes 238 = .ok (.iadd, 1) := by decide +kernel
theorem dX9_closes_239 : decode cX9_closes 239 = .ok (.iaload, 1) := by decide +kernel
theorem dX9_closes_240 : decode cX9_closes 240 = .ok (.iastore, 1) := by decide +kernel
theorem dX9_closes_241 : decode cX9_closes 241 = .ok (.iinc 8 1, 3) := by decide +kernel
theorem dX9_closes_244 : decode cX9_closes 244 = .ok (.goto (-39), 3) := by decide +kernel
theorem dX9_closes_247 : decode cX9_closes 247 = .ok (.aload_n 0, 1) := by decide +kernel
theorem dX9_closes_248 : decode cX9_closes 248 = .ok (.iload 6, 2) := by decide +kernel
theorem dX9_closes_250 : decode cX9_closes 250 = .ok (.ifCond .eq 10, 3) := by decide +kernel
theorem dX9_closes_253 : decode cX9_closes 253 = .ok (.iload 5, 2) := by decide +kernel
theorem dX9_closes_255 : decode cX9_closes 255 = .ok (.iload_n 3, 1) := by decide +kernel
theorem dX9_closes_256 : decode cX9_closes 256 = .ok (.isub, 1) := by decide +kernel
theorem dX9_closes_257 : decode cX9_closes 257 = .ok (.goto 5, 3) := by decide +kernel
theorem dX9_closes_260 : decode cX9_closes 260 = .ok (.iload 5, 2) := by decide +kernel
theorem dX9_closes_262 : decode cX9_closes 262 = .ok (.iload 7, 2) := by decide +kernel
theorem dX9_closes_264 : decode cX9_closes 264 = .ok (.invokevirtual 198, 3) := by decide +kernel
theorem dX9_closes_267 : decode cX9_closes 267 = .ok (.iconst 0, 1) := by decide +kernel
theorem dX9_closes_268 : decode cX9_closes 268 = .ok (.istore 8, 2) := by decide +kernel
theorem dX9_closes_270 : decode cX9_closes 270 = .ok (.iload 8, 2) := by decide +kernel
theorem dX9_closes_272 : decode cX9_closes 272 = .ok (.iload 7, 2) := by decide +kernel
theorem dX9_closes_274 : decode cX9_closes 274 = .ok (.if_icmp .ge 28, 3) := by decide +kernel
theorem dX9_closes_277 : decode cX9_closes 277 = .ok (.aload_n 0, 1) := by decide +kernel
theorem dX9_closes_278 : decode cX9_closes 278 = .ok (.getfield 79, 3) := by decide +kernel
theorem dX9_closes_281 : decode cX9_closes 281 = .ok (.aload_n 0, 1) := by decide +kernel
theorem dX9_closes_282 : decode cX9_closes 282 = .ok (.getfield 97, 3) := by decide +kernel
theorem dX9_closes_285 : decode cX9_closes 285 = .ok (.iload 8, 2) := by decide +kernel
theorem dX9_closes_287 : decode cX9_closes 287 = .ok (.iaload, 1) := by decide +kernel
theorem dX9_closes_288 : decode cX9_closes 288 = .ok (.aload_n 0, 1) := by decide +kernel
theorem dX9_closes_289 : decode cX9_closes 289 = .ok (.getfield 94, 3) := by decide +kernel
theorem dX9_closes_292 : decode cX9_closes 292 = .ok (.iload 8, 2) := by decide +kernel
theorem dX9_closes_294 : decode cX9_closes 294 = .ok (.iaload, 1) := by decide +kernel
theorem dX9_closes_295 : decode cX9_closes 295 = .ok (.iastore, 1) := by decide +kernel
theorem dX9_closes_296 : decode cX9_closes 296 = .ok (.iinc 8 1, 3) := by decide +kernel
theorem dX9_closes_299 : decode cX9_closes 299 = .ok (.goto (-29), 3) := by decide +kernel
theorem dX9_closes_302 : decode cX9_closes 302 = .ok (.return_, 1) := by decide +kernel
theorem dX9_isIdle_0 : decode cX9_isIdle 0 = .ok (.aload_n 0, 1) := by decide +kernel
theorem dX9_isIdle_1 : decode cX9_isIdle 1 = .ok (.iload_n 1, 1) := by decide +kernel
theorem dX9_isIdle_2 : decode cX9_isIdle 2 = .ok (.invokevirtual 202, 3) := by decide +kernel
theorem dX9_isIdle_5 : decode cX9_isIdle 5 = .ok (.lconst 0, 1) := by decide +kernel
theorem dX9_isIdle_6 : decode cX9_isIdle 6 = .ok (.lcmp, 1) := by decide +kernel
theorem dX9_isIdle_7 : decode cX9_isIdle 7 = .ok (.ifCond .ne 7, 3) := by decide +kernel
theorem dX9_isIdle_10 : decode cX9_isIdle 10 = .ok (.iconst 1, 1) := by decide +kernel
theorem dX9_isIdle_11 : decode cX9_isIdle 11 = .ok (.goto 4, 3) := by decide +kernel
theorem dX9_isIdle_14 : decode cX9_isIdle 14 = .ok (.iconst 0, 1) := by decide +kernel
theorem dX9_isIdle_15 : decode cX9_isIdle 15 = .ok (.ireturn, 1) := by decide +kernel
theorem dX9_nextOf_0 : decode cX9_nextOf 0 = .ok (.iload_n 1, 1) := by decide +kernel
theorem dX9_nextOf_1 : decode cX9_nextOf 1 = .ok (.iconst 1, 1) := by decide +kernel
theorem dX9_nextOf_2 : decode cX9_nextOf 2 = .ok (.isub, 1) := by decide +kernel
theorem dX9_nextOf_3 : decode cX9_nextOf 3 = .ok (.istore_n 2, 1) := by decide +kernel
theorem dX9_nextOf_4 : decode cX9_nextOf 4 = .ok (.iload_n 2, 1) := by decide +kernel
theorem dX9_nextOf_5 : decode cX9_nextOf 5 = .ok (.ifCond .lt 34, 3) := by decide +kernel
theorem dX9_nextOf_8 : decode cX9_nextOf 8 = .ok (.aload_n 0, 1) := by decide +kernel
theorem dX9_nextOf_9 : decode cX9_nextOf 9 = .ok (.iload_n 2, 1) := by decide +kernel
theorem dX9_nextOf_10 : decode cX9_nextOf 10 = .ok (.iconst 0, 1) := by decide +kernel
theorem dX9_nextOf_11 : decode cX9_nextOf 11 = .ok (.invokevirtual 182, 3) := by decide +kernel
theorem dX9_nextOf_14 : decode cX9_nextOf 14 = .ok (.aload_n 0, 1) := by decide +kernel
theorem dX9_nextOf_15 : decode cX9_nextOf 15 = .ok (.iload_n 1, 1) := by decide +kernel
theorem dX9_nextOf_16 : decode cX9_nextOf 16 = .ok (.iconst 0, 1) := by decide +kernel
theorem dX9_nextOf_17 : decode cX9_nextOf 17 = .ok (.invokevirtual 182, 3) := by decide +kernel
theorem dX9_nextOf_20 : decode cX9_nextOf 20 = .ok (.if_icmp .ne 13, 3) := by decide +kernel
theorem dX9_nextOf_23 : decode cX9_nextOf 23 = .ok (.aload_n 0, 1) := by decide +kernel
theorem dX9_nextOf_24 : decode cX9_nextOf 24 = .ok (.iload_n 2, 1) := by decide +kernel
theorem dX9_nextOf_25 : decode cX9_nextOf 25 = .ok (.invokevirtual 206, 3) := by decide +kernel
theorem dX9_nextOf_28 : decode cX9_nextOf 28 = .ok (.ifCond .ne 5, 3) := by decide +kernel
theorem dX9_nextOf_31 : decode cX9_nextOf 31 = .ok (.iload_n 2, 1) := by decide +kernel
theorem dX9_nextOf_32 : decode cX9_nextOf 32 = .ok (.ireturn, 1) := by decide +kernel
theorem dX9_nextOf_33 : decode cX9_nextOf 33 = .ok (.iinc 2 (-1), 3) := by decide +kernel
theorem dX9_nextOf_36 : decode cX9_nextOf 36 = .ok (.goto (-32), 3) := by decide +kernel
theorem dX9_nextOf_39 : decode cX9_nextOf 39 = .ok (.iload_n 1, 1) := by decide +kernel
theorem dX9_nextOf_40 : decode cX9_nextOf 40 = .ok (.iconst 1, 1) := by decide +kernel
theorem dX9_nextOf_41 : decode cX9_nextOf 41 = .ok (.iadd, 1) := by decide +kernel
theorem dX9_nextOf_42 : decode cX9_nextOf 42 = .ok (.istore_n 2, 1) := by decide +kernel
theorem dX9_nextOf_43 : decode cX9_nextOf 43 = .ok (.iload_n 2, 1) := by decide +kernel
theorem dX9_nextOf_44 : decode cX9_nextOf 44 = .ok (.aload_n 0, 1) := by decide +kernel
theorem dX9_nextOf_45 : decode cX9_nextOf 45 = .ok (.invokevirtual 173, 3) := by decide +kernel
theorem dX9_nextOf_48 : decode cX9_nextOf 48 = .ok (.if_icmp .ge 34, 3) := by decide +kernel
theorem dX9_nextOf_51 : decode cX9_nextOf 51 = .ok (.aload_n 0, 1) := by decide +kernel
theorem dX9_nextOf_52 : decode cX9_nextOf 52 = .ok (.iload_n 2, 1) := by decide +kernel
theorem dX9_nextOf_53 : decode cX9_nextOf 53 = .ok (.iconst 0, 1) := by decide +kernel
theorem dX9_nextOf_54 : decode cX9_nextOf 54 = .ok (.invokevirtual 182, 3) := by decide +kernel
theorem dX9_nextOf_57 : decode cX9_nextOf 57 = .ok (.aload_n 0, 1) := by decide +kernel
theorem dX9_nextOf_58 : decode cX9_nextOf 58 = .ok (.iload_n 1, 1) := by decide +kernel
theorem dX9_nextOf_59 : decode cX9_nextOf 59 = .ok (.iconst 0, 1) := by decide +kernel
theorem dX9_nextOf_60 : decode cX9_nextOf 60 = .ok (.invokevirtual 182, 3) := by decide +kernel
theorem dX9_nextOf_63 : decode cX9_nextOf 63 = .ok (.if_icmp .ne 13, 3) := by decide +kernel
theorem dX9_nextOf_66 : decode cX9_nextOf 66 = .ok (.aload_n 0, 1) := by decide +kernel
theorem dX9_nextOf_67 : decode cX9_nextOf 67 = .ok (.iload_n 2, 1) := by decide +kernel
theorem dX9_nextOf_68 : decode cX9_nextOf 68 = .ok (.invokevirtual 206, 3) := by decide +kernel
theorem dX9_nextOf_71 : decode cX9_nextOf 71 = .ok (.ifCond .ne 5, 3) := by decide +kernel
theorem dX9_nextOf_74 : decode cX9_nextOf 74 = .ok (.iload_n 2, 1) := by decide +kernel
theorem dX9_nextOf_75 : decode cX9_nextOf 75 = .ok (.ireturn, 1) := by decide +kernel
theorem dX9_nextOf_76 : decode cX9_nextOf 76 = .ok (.iinc 2 1, 3) := by decide +kernel
theorem dX9_nextOf_79 : decode cX9_nextOf 79 = .ok (.goto (-36), 3) := by decide +kernel
theorem dX9_nextOf_82 : decode cX9_nextOf 82 = .ok (.iconst (-1), 1) := by decide +kernel
theorem dX9_nextOf_83 : decode cX9_nextOf 83 = .ok (.ireturn, 1) := by decide +kernel
theorem dX9_gives_0 : decode cX9_gives 0 = .ok (.aload_n 0, 1) := by decide +kernel
theorem dX9_gives_1 : decode cX9_gives 1 = .ok (.getfield 91, 3) := by decide +kernel
theorem dX9_gives_4 : decode cX9_gives 4 = .ok (.bipush 17, 2) := by decide +kernel
theorem dX9_gives_6 : decode cX9_gives 6 = .ok (.iload_n 1, 1) := by decide +kernel
theorem dX9_gives_7 : decode cX9_gives 7 = .ok (.imul, 1) := by decide +kernel
theorem dX9_gives_8 : decode cX9_gives 8 = .ok (.iload_n 2, 1) := by decide +kernel
theorem dX9_gives_9 : decode cX9_gives 9 = .ok (.iadd, 1) := by decide +kernel
theorem dX9_gives_10 : decode cX9_gives 10 = .ok (.iload_n 3, 1) := by decide +kernel
theorem dX9_gives_11 : decode cX9_gives 11 = .ok (.iastore, 1) := by decide +kernel
theorem dX9_gives_12 : decode cX9_gives 12 = .ok (.aload_n 0, 1) := by decide +kernel
theorem dX9_gives_13 : decode cX9_gives 13 = .ok (.getfield 88, 3) := by decide +kernel
theorem dX9_gives_16 : decode cX9_gives 16 = .ok (.iload_n 2, 1) := by decide +kernel
theorem dX9_gives_17 : decode cX9_gives 17 = .ok (.dup2, 1) := by decide +kernel
theorem dX9_gives_18 : decode cX9_gives 18 = .ok (.iaload, 1) := by decide +kernel
theorem dX9_gives_19 : decode cX9_gives 19 = .ok (.iload_n 3, 1) := by decide +kernel
theorem dX9_gives_20 : decode cX9_gives 20 = .ok (.iadd, 1) := by decide +kernel
theorem dX9_gives_21 : decode cX9_gives 21 = .ok (.iastore, 1) := by decide +kernel
theorem dX9_gives_22 : decode cX9_gives 22 = .ok (.return_, 1) := by decide +kernel
theorem dX9_laysAccount_0 : decode cX9_laysAccount 0 = .ok (.aload_n 0, 1) := by decide +kernel
theorem dX9_laysAccount_1 : decode cX9_laysAccount 1 = .ok (.iconst 0, 1) := by decide +kernel
theorem dX9_laysAccount_2 : decode cX9_laysAccount 2 = .ok (.putfield 195, 3) := by decide +kernel
theorem dX9_laysAccount_5 : decode cX9_laysAccount 5 = .ok (.iconst 0, 1) := by decide +kernel
theorem dX9_laysAccount_6 : decode cX9_laysAccount 6 = .ok (.istore_n 1, 1) := by decide +kernel
theorem dX9_laysAccount_7 : decode cX9_laysAccount 7 = .ok (.iload_n 1, 1) := by decide +kernel
theorem dX9_laysAccount_8 : decode cX9_laysAccount 8 = .ok (.sipush 289, 3) := by decide +kernel
theorem dX9_laysAccount_11 : decode cX9_laysAccount 11 = .ok (.if_icmp .ge 16, 3) := by decide +kernel
theorem dX9_laysAccount_14 : decode cX9_laysAccount 14 = .ok (.aload_n 0, 1) := by decide +kernel
theorem dX9_laysAccount_15 : decode cX9_laysAccount 15 = .ok (.getfield 91, 3) := by decide +kernel
theorem dX9_laysAccount_18 : decode cX9_laysAccount 18 = .ok (.iload_n 1, 1) := by decide +kernel
theorem dX9_laysAccount_19 : decode cX9_laysAccount 19 = .ok (.iconst 0, 1) := by decide +kernel
theorem dX9_laysAccount_20 : decode cX9_laysAccount 20 = .ok (.iastore, 1) := by decide +kernel
theorem dX9_laysAccount_21 : decode cX9_laysAccount 21 = .ok (.iinc 1 1, 3) := by decide +kernel
theorem dX9_laysAccount_24 : decode cX9_laysAccount 24 = .ok (.goto (-17), 3) := by decide +kernel
theorem dX9_laysAccount_27 : decode cX9_laysAccount 27 = .ok (.iconst 0, 1) := by decide +kernel
theorem dX9_laysAccount_28 : decode cX9_laysAccount 28 = .ok (.istore_n 1, 1) := by decide +kernel
theorem dX9_laysAccount_29 : decode cX9_laysAccount 29 = .ok (.iload_n 1, 1) := by decide +kernel
theorem dX9_laysAccount_30 : decode cX9_laysAccount 30 = .ok (.bipush 17, 2) := by decide +kernel
theorem dX9_laysAccount_32 : decode cX9_laysAccount 32 = .ok (.if_icmp .ge 16, 3) := by decide +kernel
theorem dX9_laysAccount_35 : decode cX9_laysAccount 35 = .ok (.aload_n 0, 1) := by decide +kernel
theorem dX9_laysAccount_36 : decode cX9_laysAccount 36 = .ok (.getfield 88, 3) := by decide +kernel
theorem dX9_laysAccount_39 : decode cX9_laysAccount 39 = .ok (.iload_n 1, 1) := by decide +kernel
theorem dX9_laysAccount_40 : decode cX9_laysAccount 40 = .ok (.iconst 0, 1) := by decide +kernel
theorem dX9_laysAccount_41 : decode cX9_laysAccount 41 = .ok (.iastore, 1) := by decide +kernel
theorem dX9_laysAccount_42 : decode cX9_laysAccount 42 = .ok (.iinc 1 1, 3) := by decide +kernel
theorem dX9_laysAccount_45 : decode cX9_laysAccount 45 = .ok (.goto (-16), 3) := by decide +kernel
theorem dX9_laysAccount_48 : decode cX9_laysAccount 48 = .ok (.iconst 0, 1) := by decide +kernel
theorem dX9_laysAccount_49 : decode cX9_laysAccount 49 = .ok (.istore_n 1, 1) := by decide +kernel
theorem dX9_laysAccount_50 : decode cX9_laysAccount 50 = .ok (.iload_n 1, 1) := by decide +kernel
theorem dX9_laysAccount_51 : decode cX9_laysAccount 51 = .ok (.aload_n 0, 1) := by decide +kernel
theorem dX9_laysAccount_52 : decode cX9_laysAccount 52 = .ok (.getfield 64, 3) := by decide +kernel
theorem dX9_laysAccount_55 : decode cX9_laysAccount 55 = .ok (.bipush 38, 2) := by decide +kernel
theorem dX9_laysAccount_57 : decode cX9_laysAccount 57 = .ok (.iaload, 1) := by decide +kernel
theorem dX9_laysAccount_58 : decode cX9_laysAccount 58 = .ok (.if_icmp .ge 14, 3) := by decide +kernel
theorem dX9_laysAccount_61 : decode cX9_laysAccount 61 = .ok (.aload_n 0, 1) := by decide +kernel
theorem dX9_laysAccount_62 : decode cX9_laysAccount 62 = .ok (.iload_n 1, 1) := by decide +kernel
theorem dX9_laysAccount_63 : decode cX9_laysAccount 63 = .ok (.invokevirtual 209, 3) := by decide +kernel
theorem dX9_laysAccount_66 : decode cX9_laysAccount 66 = .ok (.iinc 1 1, 3) := by decide +kernel
theorem dX9_laysAccount_69 : decode cX9_laysAccount 69 = .ok (.goto (-19), 3) := by decide +kernel
theorem dX9_laysAccount_72 : decode cX9_laysAccount 72 = .ok (.iconst 0, 1) := by decide +kernel
theorem dX9_laysAccount_73 : decode cX9_laysAccount 73 = .ok (.istore_n 1, 1) := by decide +kernel
theorem dX9_laysAccount_74 : decode cX9_laysAccount 74 = .ok (.iload_n 1, 1) := by decide +kernel
theorem dX9_laysAccount_75 : decode cX9_laysAccount 75 = .ok (.aload_n 0, 1) := by decide +kernel
theorem dX9_laysAccount_76 : decode cX9_laysAccount 76 = .ok (.invokevirtual 173, 3) := by decide +kernel
theorem dX9_laysAccount_79 : decode cX9_laysAccount 79 = .ok (.if_icmp .ge 16, 3) := by decide +kernel
theorem dX9_laysAccount_82 : decode cX9_laysAccount 82 = .ok (.aload_n 0, 1) := by decide +kernel
theorem dX9_laysAccount_83 : decode cX9_laysAccount 83 = .ok (.getfield 82, 3) := by decide +kernel
theorem dX9_laysAccount_86 : decode cX9_laysAccount 86 = .ok (.iload_n 1, 1) := by decide +kernel
theorem dX9_laysAccount_87 : decode cX9_laysAccount 87 = .ok (.iconst 0, 1) := by decide +kernel
theorem dX9_laysAccount_88 : decode cX9_laysAccount 88 = .ok (.iastore, 1) := by decide +kernel
theorem dX9_laysAccount_89 : decode cX9_laysAccount 89 = .ok (.iinc 1 1, 3) := by decide +kernel
theorem dX9_laysAccount_92 : decode cX9_laysAccount 92 = .ok (.goto (-18), 3) := by decide +kernel
theorem dX9_laysAccount_95 : decode cX9_laysAccount 95 = .ok (.iconst 0, 1) := by decide +kernel
theorem dX9_laysAccount_96 : decode cX9_laysAccount 96 = .ok (.istore_n 1, 1) := by decide +kernel
theorem dX9_laysAccount_97 : decode cX9_laysAccount 97 = .ok (.iload_n 1, 1) := by decide +kernel
theorem dX9_laysAccount_98 : decode cX9_laysAccount 98 = .ok (.aload_n 0, 1) := by decide +kernel
theorem dX9_laysAccount_99 : decode cX9_laysAccount 99 = .ok (.invokevirtual 173, 3) := by decide +kernel
theorem dX9_laysAccount_102 : decode cX9_laysAccount 102 = .ok (.if_icmp .ge 89, 3) := by decide +kernel
theorem dX9_laysAccount_105 : decode cX9_laysAccount 105 = .ok (.aload_n 0, 1) := by decide +kernel
theorem dX9_laysAccount_106 : decode cX9_laysAccount 106 = .ok (.getfield 85, 3) := by decide +kernel
theorem dX9_laysAccount_109 : decode cX9_laysAccount 109 = .ok (.iload_n 1, 1) := by decide +kernel
theorem dX9_laysAccount_110 : decode cX9_laysAccount 110 = .ok (.aload_n 0, 1) := by decide +kernel
theorem dX9_laysAccount_111 : decode cX9_laysAccount 111 = .ok (.iload_n 1, 1) := by decide +kernel
theorem dX9_laysAccount_112 : decode cX9_laysAccount 112 = .ok (.invokevirtual 206, 3) := by decide +kernel
theorem dX9_laysAccount_115 : decode cX9_laysAccount 115 = .ok (.ifCond .eq 11, 3) := by decide +kernel
theorem dX9_laysAccount_118 : decode cX9_laysAccount 118 = .ok (.aload_n 0, 1) := by decide +kernel
theorem dX9_laysAccount_119 : decode cX9_laysAccount 119 = .ok (.iload_n 1, 1) := by decide +kernel
theorem dX9_laysAccount_120 : decode cX9_laysAccount 120 = .ok (.invokevirtual 212, 3) := by decide +kernel
theorem dX9_laysAccount_123 : decode cX9_laysAccount 123 = .ok (.goto 4, 3) := by decide +kernel
theorem dX9_laysAccount_126 : decode cX9_laysAccount 126 = .ok (.iconst (-1), 1) := by decide +kernel
theorem dX9_laysAccount_127 : decode cX9_laysAccount 127 = .ok (.iastore, 1) := by decide +kernel
theorem dX9_laysAccount_128 : decode cX9_laysAccount 128 = .ok (.aload_n 0, 1) := by decide +kernel
theorem dX9_laysAccount_129 : decode cX9_laysAccount 129 = .ok (.iload_n 1, 1) := by decide +kernel
theorem dX9_laysAccount_130 : decode cX9_laysAccount 130 = .ok (.invokevirtual 206, 3) := by decide +kernel
theorem dX9_laysAccount_133 : decode cX9_laysAccount 133 = .ok (.ifCond .eq 12, 3) := by decide +kernel
theorem dX9_laysAccount_136 : decode cX9_laysAccount 136 = .ok (.aload_n 0, 1) := by decide +kernel
theorem dX9_laysAccount_137 : decode cX9_laysAccount 137 = .ok (.getfield 85, 3) := by decide +kernel
theorem dX9_laysAccount_140 : decode cX9_laysAccount 140 = .ok (.iload_n 1, 1) := by decide +kernel
theorem dX9_laysAccount_141 : decode cX9_laysAccount 141 = .ok (.iaload, 1) := by decide +kernel
theorem dX9_laysAccount_142 : decode cX9_laysAccount 142 = .ok (.goto 4, 3) := by decide +kernel
theorem dX9_laysAccount_145 : decode cX9_laysAccount 145 = .ok (.iload_n 1, 1) := by decide +kernel
theorem dX9_laysAccount_146 : decode cX9_laysAccount 146 = .ok (.istore_n 2, 1) := by decide +kernel
theorem dX9_laysAccount_147 : decode cX9_laysAccount 147 = .ok (.iload_n 2, 1) := by decide +kernel
theorem dX9_laysAccount_148 : decode cX9_laysAccount 148 = .ok (.iconst (-1), 1) := by decide +kernel
theorem dX9_laysAccount_149 : decode cX9_laysAccount 149 = .ok (.if_icmp .ne 21, 3) := by decide +kernel
theorem dX9_laysAccount_152 : decode cX9_laysAccount 152 = .ok (.aload_n 0, 1) := by decide +kernel
theorem dX9_laysAccount_153 : decode cX9_laysAccount 153 = .ok (.dup, 1) := by decide +kernel
theorem dX9_laysAccount_154 : decode cX9_laysAccount 154 = .ok (.getfield 195, 3) := by decide +kernel
theorem dX9_laysAccount_157 : decode cX9_laysAccount 157 = .ok (.aload_n 0, 1) := by decide +kernel
theorem dX9_laysAccount_158 : decode cX9_laysAccount 158 = .ok (.getfield 79, 3) := by decide +kernel
theorem dX9_laysAccount_161 : decode cX9_laysAccount 161 = .ok (.iload_n 1, 1) := by decide +kernel
theorem dX9_laysAccount_162 : decode cX9_laysAccount 162 = .ok (.iaload, 1) := by decide +kernel
theorem dX9_laysAccount_163 : decode cX9_laysAccount 163 = .ok (.iadd, 1) := by decide +kernel
theorem dX9_laysAccount_164 : decode cX9_laysAccount 164 = .ok (.putfield 195, 3) := by decide +kernel
theorem dX9_laysAccount_167 : decode cX9_laysAccount 167 = .ok (.goto 18, 3) := by decide +kernel
theorem dX9_laysAccount_170 : decode cX9_laysAccount 170 = .ok (.aload_n 0, 1) := by decide +kernel
theorem dX9_laysAccount_171 : decode cX9_laysAccount 171 = .ok (.getfield 82, 3) := by decide +kernel
theorem dX9_laysAccount_174 : decode cX9_laysAccount 174 = .ok (.iload_n 2, 1) := by decide +kernel
theorem dX9_laysAccount_175 : decode cX9_laysAccount 175 = .ok (.dup2, 1) := by decide +kernel
theorem dX9_laysAccount_176 : decode cX9_laysAccount 176 = .ok (.iaload, 1) := by decide +kernel
theorem dX9_laysAccount_177 : decode cX9_laysAccount 177 = .ok (.aload_n 0, 1) := by decide +kernel
theorem dX9_laysAccount_178 : decode cX9_laysAccount 178 = .ok (.getfield 79, 3) := by decide +kernel
theorem dX9_laysAccount_181 : decode cX9_laysAccount 181 = .ok (.iload_n 1, 1) := by decide +kernel
theorem dX9_laysAccount_182 : decode cX9_laysAccount 182 = .ok (.iaload, 1) := by decide +kernel
theorem dX9_laysAccount_183 : decode cX9_laysAccount 183 = .ok (.iadd, 1) := by decide +kernel
theorem dX9_laysAccount_184 : decode cX9_laysAccount 184 = .ok (.iastore, 1) := by decide +kernel
theorem dX9_laysAccount_185 : decode cX9_laysAccount 185 = .ok (.iinc 1 1, 3) := by decide +kernel
theorem dX9_laysAccount_188 : decode cX9_laysAccount 188 = .ok (.goto (-91), 3) := by decide +kernel
theorem dX9_laysAccount_191 : decode cX9_laysAccount 191 = .ok (.iconst 0, 1) := by decide +kernel
theorem dX9_laysAccount_192 : decode cX9_laysAccount 192 = .ok (.istore_n 1, 1) := by decide +kernel
theorem dX9_laysAccount_193 : decode cX9_laysAccount 193 = .ok (.iload_n 1, 1) := by decide +kernel
theorem dX9_laysAccount_194 : decode cX9_laysAccount 194 = .ok (.aload_n 0, 1) := by decide +kernel
theorem dX9_laysAccount_195 : decode cX9_laysAccount 195 = .ok (.invokevirtual 173, 3) := by decide +kernel
theorem dX9_laysAccount_198 : decode cX9_laysAccount 198 = .ok (.if_icmp .ge 22, 3) := by decide +kernel
theorem dX9_laysAccount_201 : decode cX9_laysAccount 201 = .ok (.aload_n 0, 1) := by decide +kernel
theorem dX9_laysAccount_202 : decode cX9_laysAccount 202 = .ok (.iload_n 1, 1) := by decide +kernel
theorem dX9_laysAccount_203 : decode cX9_laysAccount 203 = .ok (.invokevirtual 206, 3) := by decide +kernel
theorem dX9_laysAccount_206 : decode cX9_laysAccount 206 = .ok (.ifCond .ne 8, 3) := by decide +kernel
theorem dX9_laysAccount_209 : decode cX9_laysAccount 209 = .ok (.aload_n 0, 1) := by decide +kernel
theorem dX9_laysAccount_210 : decode cX9_laysAccount 210 = .ok (.iload_n 1, 1) := by decide +kernel
theorem dX9_laysAccount_211 : decode cX9_laysAccount 211 = .ok (.invokevirtual 215, 3) := by decide +kernel
theorem dX9_laysAccount_214 : decode cX9_laysAccount 214 = .ok (.iinc 1 1, 3) := by decide +kernel
theorem dX9_laysAccount_217 : decode cX9_laysAccount 217 = .ok (.goto (-24), 3) := by decide +kernel
theorem dX9_laysAccount_220 : decode cX9_laysAccount 220 = .ok (.aload_n 0, 1) := by decide +kernel
theorem dX9_laysAccount_221 : decode cX9_laysAccount 221 = .ok (.getfield 176, 3) := by decide +kernel
theorem dX9_laysAccount_224 : decode cX9_laysAccount 224 = .ok (.ifCond .ne 4, 3) := by decide +kernel
theorem dX9_laysAccount_227 : decode cX9_laysAccount 227 = .ok (.return_, 1) := by decide +kernel
theorem dX9_laysAccount_228 : decode cX9_laysAccount 228 = .ok (.iconst 0, 1) := by decide +kernel
theorem dX9_laysAccount_229 : decode cX9_laysAccount 229 = .ok (.istore_n 1, 1) := by decide +kernel
theorem dX9_laysAccount_230 : decode cX9_laysAccount 230 = .ok (.iload_n 1, 1) := by decide +kernel
theorem dX9_laysAccount_231 : decode cX9_laysAccount 231 = .ok (.aload_n 0, 1) := by decide +kernel
theorem dX9_laysAccount_232 : decode cX9_laysAccount 232 = .ok (.getfield 176, 3) := by decide +kernel
theorem dX9_laysAccount_235 : decode cX9_laysAccount 235 = .ok (.if_icmp .ge 59, 3) := by decide +kernel
theorem dX9_laysAccount_238 : decode cX9_laysAccount 238 = .ok (.aload_n 0, 1) := by decide +kernel
theorem dX9_laysAccount_239 : decode cX9_laysAccount 239 = .ok (.getfield 100, 3) := by decide +kernel
theorem dX9_laysAccount_242 : decode cX9_laysAccount 242 = .ok (.iload_n 1, 1) := by decide +kernel
theorem dX9_laysAccount_243 : decode cX9_laysAccount 243 = .ok (.aload_n 0, 1) := by decide +kernel
theorem dX9_laysAccount_244 : decode cX9_laysAccount 244 = .ok (.getfield 73, 3) := by decide +kernel
theorem dX9_laysAccount_247 : decode cX9_laysAccount 247 = .ok (.iload_n 1, 1) := by decide +kernel
theorem dX9_laysAccount_248 : decode cX9_laysAccount 248 = .ok (.iaload, 1) := by decide +kernel
theorem dX9_laysAccount_249 : decode cX9_laysAccount 249 = .ok (.i2l, 1) := by decide +kernel
theorem dX9_laysAccount_250 : decode cX9_laysAccount 250 = .ok (.aload_n 0, 1) := by decide +kernel
theorem dX9_laysAccount_251 : decode cX9_laysAccount 251 = .ok (.getfield 64, 3) := by decide +kernel
theorem dX9_laysAccount_254 : decode cX9_laysAccount 254 = .ok (.aload_n 0, 1) := by decide +kernel
theorem dX9_laysAccount_255 : decode cX9_laysAccount 255 = .ok (.getfield 64, 3) := by decide +kernel
theorem dX9_laysAccount_258 : decode cX9_laysAccount 258 = .ok (.bipush 69, 2) := by decide +kernel
theorem dX9_laysAccount_260 : decode cX9_laysAccount 260 = .ok (.aload_n 0, 1) := by decide +kernel
theorem dX9_laysAccount_261 : decode cX9_laysAccount 261 = .ok (.getfield 76, 3) := by decide +kernel
theorem dX9_laysAccount_264 : decode cX9_laysAccount 264 = .ok (.iload_n 1, 1) := by decide +kernel
theorem dX9_laysAccount_265 : decode cX9_laysAccount 265 = .ok (.iaload, 1) := by decide +kernel
theorem dX9_laysAccount_266 : decode cX9_laysAccount 266 = .ok (.iadd, 1) := by decide +kernel
theorem dX9_laysAccount_267 : decode cX9_laysAccount 267 = .ok (.iaload, 1) := by decide +kernel
theorem dX9_laysAccount_268 : decode cX9_laysAccount 268 = .ok (.aload_n 0, 1) := by decide +kernel
theorem dX9_laysAccount_269 : decode cX9_laysAccount 269 = .ok (.getfield 64, 3) := by decide +kernel
theorem dX9_laysAccount_272 : decode cX9_laysAccount 272 = .ok (.bipush 85, 2) := by decide +kernel
theorem dX9_laysAccount_274 : decode cX9_laysAccount 274 = .ok (.aload_n 0, 1) := by decide +kernel
theorem dX9_laysAccount_275 : decode cX9_laysAccount 275 = .ok (.getfield 76, 3) := by decide +kernel
theorem dX9_laysAccount_278 : decode cX9_laysAccount 278 = .ok (.iload_n 1, 1) := by decide +kernel
theorem dX9_laysAccount_279 : decode cX9_laysAccount 279 = .ok (.iaload, 1) := by decide +kernel
theorem dX9_laysAccount_280 : decode cX9_laysAccount 280 = .ok (.iadd, 1) := by decide +kernel
theorem dX9_laysAccount_281 : decode cX9_laysAccount 281 = .ok (.iaload, 1) := by decide +kernel
theorem dX9_laysAccount_282 : decode cX9_laysAccount 282 = .ok (.invokestatic 128, 3) := by decide +kernel
theorem dX9_laysAccount_285 : decode cX9_laysAccount 285 = .ok (.i2l, 1) := by decide +kernel
theorem dX9_laysAccount_286 : decode cX9_laysAccount 286 = .ok (.lmul, 1) := by decide +kernel
theorem dX9_laysAccount_287 : decode cX9_laysAccount 287 = .ok (.lastore, 1) := by decide +kernel
theorem dX9_laysAccount_288 : decode cX9_laysAccount 288 = .ok (.iinc 1 1, 3) := by decide +kernel
theorem dX9_laysAccount_291 : decode cX9_laysAccount 291 = .ok (.goto (-61), 3) := by decide +kernel
theorem dX9_laysAccount_294 : decode cX9_laysAccount 294 = .ok (.aload_n 0, 1) := by decide +kernel
theorem dX9_laysAccount_295 : decode cX9_laysAccount 295 = .ok (.aload_n 0, 1) := by decide +kernel
theorem dX9_laysAccount_296 : decode cX9_laysAccount 296 = .ok (.getfield 195, 3) := by decide +kernel
theorem dX9_laysAccount_299 : decode cX9_laysAccount 299 = .ok (.aload_n 0, 1) := by decide +kernel
theorem dX9_laysAccount_300 : decode cX9_laysAccount 300 = .ok (.getfield 176, 3) := by decide +kernel
theorem dX9_laysAccount_303 : decode cX9_laysAccount 303 = .ok (.invokevirtual 198, 3) := by decide +kernel
theorem dX9_laysAccount_306 : decode cX9_laysAccount 306 = .ok (.iconst 0, 1) := by decide +kernel
theorem dX9_laysAccount_307 : decode cX9_laysAccount 307 = .ok (.istore_n 1, 1) := by decide +kernel
theorem dX9_laysAccount_308 : decode cX9_laysAccount 308 = .ok (.iload_n 1, 1) := by decide +kernel
theorem dX9_laysAccount_309 : decode cX9_laysAccount 309 = .ok (.aload_n 0, 1) := by decide +kernel
theorem dX9_laysAccount_310 : decode cX9_laysAccount 310 = .ok (.getfield 176, 3) := by decide +kernel
theorem dX9_laysAccount_313 : decode cX9_laysAccount 313 = .ok (.if_icmp .ge 22, 3) := by decide +kernel
theorem dX9_laysAccount_316 : decode cX9_laysAccount 316 = .ok (.aload_n 0, 1) := by decide +kernel
theorem dX9_laysAccount_317 : decode cX9_laysAccount 317 = .ok (.bipush 16, 2) := by decide +kernel
theorem dX9_laysAccount_319 : decode cX9_laysAccount 319 = .ok (.iload_n 1, 1) := by decide +kernel
theorem dX9_laysAccount_320 : decode cX9_laysAccount 320 = .ok (.aload_n 0, 1) := by decide +kernel
theorem dX9_laysAccount_321 : decode cX9_laysAccount 321 = .ok (.getfield 94, 3) := by decide +kernel
theorem dX9_laysAccount_324 : decode cX9_laysAccount 324 = .ok (.iload_n 1, 1) := by decide +kernel
theorem dX9_laysAccount_325 : decode cX9_laysAccount 325 = .ok (.iaload, 1) := by decide +kernel
theorem dX9_laysAccount_326 : decode cX9_laysAccount 326 = .ok (.invokevirtual 218, 3) := by decide +kernel
theorem dX9_laysAccount_329 : decode cX9_laysAccount 329 = .ok (.iinc 1 1, 3) := by decide +kernel
theorem dX9_laysAccount_332 : decode cX9_laysAccount 332 = .ok (.goto (-24), 3) := by decide +kernel
theorem dX9_laysAccount_335 : decode cX9_laysAccount 335 = .ok (.return_, 1) := by decide +kernel
theorem dX9_laysTrip_0 : decode cX9_laysTrip 0 = .ok (.iconst 0, 1) := by decide +kernel
theorem dX9_laysTrip_1 : decode cX9_laysTrip 1 = .ok (.istore_n 2, 1) := by decide +kernel
theorem dX9_laysTrip_2 : decode cX9_laysTrip 2 = .ok (.iconst 0, 1) := by decide +kernel
theorem dX9_laysTrip_3 : decode cX9_laysTrip 3 = .ok (.istore_n 3, 1) := by decide +kernel
theorem dX9_laysTrip_4 : decode cX9_laysTrip 4 = .ok (.iload_n 3, 1) := by decide +kernel
theorem dX9_laysTrip_5 : decode cX9_laysTrip 5 = .ok (.aload_n 0, 1) := by decide +kernel
theorem dX9_laysTrip_6 : decode cX9_laysTrip 6 = .ok (.getfield 176, 3) := by decide +kernel
theorem dX9_laysTrip_9 : decode cX9_laysTrip 9 = .ok (.if_icmp .ge 60, 3) := by decide +kernel
theorem dX9_laysTrip_12 : decode cX9_laysTrip 12 = .ok (.iload_n 3, 1) := by decide +kernel
theorem dX9_laysTrip_13 : decode cX9_laysTrip 13 = .ok (.aload_n 0, 1) := by decide +kernel
theorem dX9_laysTrip_14 : decode cX9_laysTrip 14 = .ok (.getfield 179, 3) := by decide +kernel
theorem dX9_laysTrip_17 : decode cX9_laysTrip 17 = .ok (.if_icmp .eq 46, 3) := by decide +kernel
theorem dX9_laysTrip_20 : decode cX9_laysTrip 20 = .ok (.aload_n 0, 1) := by decide +kernel
theorem dX9_laysTrip_21 : decode cX9_laysTrip 21 = .ok (.iload_n 1, 1) := by decide +kernel
theorem dX9_laysTrip_22 : decode cX9_laysTrip 22 = .ok (.iconst 5, 1) := by decide +kernel
theorem dX9_laysTrip_23 : decode cX9_laysTrip 23 = .ok (.invokevirtual 182, 3) := by decide +kernel
theorem dX9_laysTrip_26 : decode cX9_laysTrip 26 = .ok (.aload_n 0, 1) := by decide +kernel
theorem dX9_laysTrip_27 : decode cX9_laysTrip 27 = .ok (.getfield 76, 3) := by decide +kernel
theorem dX9_laysTrip_30 : decode cX9_laysTrip 30 = .ok (.iload_n 3, 1) := by decide +kernel
theorem dX9_laysTrip_31 : decode cX9_laysTrip 31 = .ok (.iaload, 1) := by decide +kernel
theorem dX9_laysTrip_32 : decode cX9_laysTrip 32 = .ok (.invokestatic 132, 3) := by decide +kernel
theorem dX9_laysTrip_35 : decode cX9_laysTrip 35 = .ok (.ifCond .ne 6, 3) := by decide +kernel
theorem dX9_laysTrip_38 : decode cX9_laysTrip 38 = .ok (.goto 25, 3) := by decide +kernel
theorem dX9_laysTrip_41 : decode cX9_laysTrip 41 = .ok (.aload_n 0, 1) := by decide +kernel
theorem dX9_laysTrip_42 : decode cX9_laysTrip 42 = .ok (.getfield 100, 3) := by decide +kernel
theorem dX9_laysTrip_45 : decode cX9_laysTrip 45 = .ok (.iload_n 2, 1) := by decide +kernel
theorem dX9_laysTrip_46 : decode cX9_laysTrip 46 = .ok (.aload_n 0, 1) := by decide +kernel
theorem dX9_laysTrip_47 : decode cX9_laysTrip 47 = .ok (.iload_n 1, 1) := by decide +kernel
theorem dX9_laysTrip_48 : decode cX9_laysTrip 48 = .ok (.iload_n 3, 1) := by decide +kernel
theorem dX9_laysTrip_49 : decode cX9_laysTrip 49 = .ok (.invokevirtual 186, 3) := by decide +kernel
theorem dX9_laysTrip_52 : decode cX9_laysTrip 52 = .ok (.lastore, 1) := by decide +kernel
theorem dX9_laysTrip_53 : decode cX9_laysTrip 53 = .ok (.aload_n 0, 1) := by decide +kernel
theorem dX9_laysTrip_54 : decode cX9_laysTrip 54 = .ok (.getfield 97, 3) := by decide +kernel
theorem dX9_laysTrip_57 : decode cX9_laysTrip 57 = .ok (.iload_n 2, 1) := by decide +kernel
theorem dX9_laysTrip_58 : decode cX9_laysTrip 58 = .ok (.iload_n 3, 1) := by decide +kernel
theorem dX9_laysTrip_59 : decode cX9_laysTrip 59 = .ok (.iastore, 1) := by decide +kernel
theorem dX9_laysTrip_60 : decode cX9_laysTrip 60 = .ok (.iinc 2 1, 3) := by decide +kernel
theorem dX9_laysTrip_63 : decode cX9_laysTrip 63 = .ok (.iinc 3 1, 3) := by decide +kernel
theorem dX9_laysTrip_66 : decode cX9_laysTrip 66 = .ok (.goto (-62), 3) := by decide +kernel
theorem dX9_laysTrip_69 : decode cX9_laysTrip 69 = .ok (.aload_n 0, 1) := by decide +kernel
theorem dX9_laysTrip_70 : decode cX9_laysTrip 70 = .ok (.aload_n 0, 1) := by decide +kernel
theorem dX9_laysTrip_71 : decode cX9_laysTrip 71 = .ok (.getfield 82, 3) := by decide +kernel
theorem dX9_laysTrip_74 : decode cX9_laysTrip 74 = .ok (.iload_n 1, 1) := by decide +kernel
theorem dX9_laysTrip_75 : decode cX9_laysTrip 75 = .ok (.iaload, 1) := by decide +kernel
theorem dX9_laysTrip_76 : decode cX9_laysTrip 76 = .ok (.iload_n 2, 1) := by decide +kernel
theorem dX9_laysTrip_77 : decode cX9_laysTrip 77 = .ok (.invokevirtual 198, 3) := by decide +kernel
theorem dX9_laysTrip_80 : decode cX9_laysTrip 80 = .ok (.iconst 0, 1) := by decide +kernel
theorem dX9_laysTrip_81 : decode cX9_laysTrip 81 = .ok (.istore_n 3, 1) := by decide +kernel
theorem dX9_laysTrip_82 : decode cX9_laysTrip 82 = .ok (.iload_n 3, 1) := by decide +kernel
theorem dX9_laysTrip_83 : decode cX9_laysTrip 83 = .ok (.iload_n 2, 1) := by decide +kernel
theorem dX9_laysTrip_84 : decode cX9_laysTrip 84 = .ok (.if_icmp .ge 26, 3) := by decide +kernel
theorem dX9_laysTrip_87 : decode cX9_laysTrip 87 = .ok (.aload_n 0, 1) := by decide +kernel
theorem dX9_laysTrip_88 : decode cX9_laysTrip 88 = .ok (.iload_n 1, 1) := by decide +kernel
theorem dX9_laysTrip_89 : decode cX9_laysTrip 89 = .ok (.aload_n 0, 1) := by decide +kernel
theorem dX9_laysTrip_90 : decode cX9_laysTrip 90 = .ok (.getfield 97, 3) := by decide +kernel
theorem dX9_laysTrip_93 : decode cX9_laysTrip 93 = .ok (.iload_n 3, 1) := by decide +kernel
theorem dX9_laysTrip_94 : decode cX9_laysTrip 94 = .ok (.iaload, 1) := by decide +kernel
theorem dX9_laysTrip_95 : decode cX9_laysTrip 95 = .ok (.aload_n 0, 1) := by decide +kernel
theorem dX9_laysTrip_96 : decode cX9_laysTrip 96 = .ok (.getfield 94, 3) := by decide +kernel
theorem dX9_laysTrip_99 : decode cX9_laysTrip 99 = .ok (.iload_n 3, 1) := by decide +kernel
theorem dX9_laysTrip_100 : decode cX9_laysTrip 100 = .ok (.iaload, 1) := by decide +kernel
theorem dX9_laysTrip_101 : decode cX9_laysTrip 101 = .ok (.invokevirtual 218, 3) := by decide +kernel
theorem dX9_laysTrip_104 : decode cX9_laysTrip 104 = .ok (.iinc 3 1, 3) := by decide +kernel
theorem dX9_laysTrip_107 : decode cX9_laysTrip 107 = .ok (.goto (-25), 3) := by decide +kernel
theorem dX9_laysTrip_110 : decode cX9_laysTrip 110 = .ok (.return_, 1) := by decide +kernel
theorem dX9_account_0 : decode cX9_account 0 = .ok (.aload_n 0, 1) := by decide +kernel
theorem dX9_account_1 : decode cX9_account 1 = .ok (.invokevirtual 221, 3) := by decide +kernel
theorem dX9_account_4 : decode cX9_account 4 = .ok (.aload_n 0, 1) := by decide +kernel
theorem dX9_account_5 : decode cX9_account 5 = .ok (.invokevirtual 224, 3) := by decide +kernel
theorem dX9_account_8 : decode cX9_account 8 = .ok (.return_, 1) := by decide +kernel
theorem dX9_adds_0 : decode cX9_adds 0 = .ok (.iload_n 2, 1) := by decide +kernel
theorem dX9_adds_1 : decode cX9_adds 1 = .ok (.iload_n 3, 1) := by decide +kernel
theorem dX9_adds_2 : decode cX9_adds 2 = .ok (.if_icmp .ne 4, 3) := by decide +kernel
theorem dX9_adds_5 : decode cX9_adds 5 = .ok (.return_, 1) := by decide +kernel
theorem dX9_adds_6 : decode cX9_adds 6 = .ok (.aload_n 0, 1) := by decide +kernel
theorem dX9_adds_7 : decode cX9_adds 7 = .ok (.getfield 107, 3) := by decide +kernel
theorem dX9_adds_10 : decode cX9_adds 10 = .ok (.iconst 3, 1) := by decide +kernel
theorem dX9_adds_11 : decode cX9_adds 11 = .ok (.aload_n 0, 1) := by decide +kernel
theorem dX9_adds_12 : decode cX9_adds 12 = .ok (.getfield 227, 3) := by decide +kernel
theorem dX9_adds_15 : decode cX9_adds 15 = .ok (.imul, 1) := by decide +kernel
theorem dX9_adds_16 : decode cX9_adds 16 = .ok (.iload_n 1, 1) := by decide +kernel
theorem dX9_adds_17 : decode cX9_adds 17 = .ok (.iastore, 1) := by decide +kernel
theorem dX9_adds_18 : decode cX9_adds 18 = .ok (.aload_n 0, 1) := by decide +kernel
theorem dX9_adds_19 : decode cX9_adds 19 = .ok (.getfield 107, 3) := by decide +kernel
theorem dX9_adds_22 : decode cX9_adds 22 = .ok (.iconst 3, 1) := by decide +kernel
theorem dX9_adds_23 : decode cX9_adds 23 = .ok (.aload_n 0, 1) := by decide +kernel
theorem dX9_adds_24 : decode cX9_adds 24 = .ok (.getfield 227, 3) := by decide +kernel
theorem dX9_adds_27 : decode cX9_adds 27 = .ok (.imul, 1) := by decide +kernel
theorem dX9_adds_28 : decode cX9_adds 28 = .ok (.iconst 1, 1) := by decide +kernel
theorem dX9_adds_29 : decode cX9_adds 29 = .ok (.iadd, 1) := by decide +kernel
theorem dX9_adds_30 : decode cX9_adds 30 = .ok (.iload_n 2, 1) := by decide +kernel
theorem dX9_adds_31 : decode cX9_adds 31 = .ok (.iastore, 1) := by decide +kernel
theorem dX9_adds_32 : decode cX9_adds 32 = .ok (.aload_n 0, 1) := by decide +kernel
theorem dX9_adds_33 : decode cX9_adds 33 = .ok (.getfield 107, 3) := by decide +kernel
theorem dX9_adds_36 : decode cX9_adds 36 = .ok (.iconst 3, 1) := by decide +kernel
theorem dX9_adds_37 : decode cX9_adds 37 = .ok (.aload_n 0, 1) := by decide +kernel
theorem dX9_adds_38 : decode cX9_adds 38 = .ok (.getfield 227, 3) := by decide +kernel
theorem dX9_adds_41 : decode cX9_adds 41 = .ok (.imul, 1) := by decide +kernel
theorem dX9_adds_42 : decode cX9_adds 42 = .ok (.iconst 2, 1) := by decide +kernel
theorem dX9_adds_43 : decode cX9_adds 43 = .ok (.iadd, 1) := by decide +kernel
theorem dX9_adds_44 : decode cX9_adds 44 = .ok (.iload_n 3, 1) := by decide +kernel
theorem dX9_adds_45 : decode cX9_adds 45 = .ok (.iastore, 1) := by decide +kernel
theorem dX9_adds_46 : decode cX9_adds 46 = .ok (.aload_n 0, 1) := by decide +kernel
theorem dX9_adds_47 : decode cX9_adds 47 = .ok (.dup, 1) := by decide +kernel
theorem dX9_adds_48 : decode cX9_adds 48 = .ok (.getfield 227, 3) := by decide +kernel
theorem dX9_adds_51 : decode cX9_adds 51 = .ok (.iconst 1, 1) := by decide +kernel
theorem dX9_adds_52 : decode cX9_adds 52 = .ok (.iadd, 1) := by decide +kernel
theorem dX9_adds_53 : decode cX9_adds 53 = .ok (.putfield 227, 3) := by decide +kernel
theorem dX9_adds_56 : decode cX9_adds 56 = .ok (.return_, 1) := by decide +kernel
theorem dX9_laysGaps_0 : decode cX9_laysGaps 0 = .ok (.aload_n 0, 1) := by decide +kernel
theorem dX9_laysGaps_1 : decode cX9_laysGaps 1 = .ok (.iconst 0, 1) := by decide +kernel
theorem dX9_laysGaps_2 : decode cX9_laysGaps 2 = .ok (.putfield 227, 3) := by decide +kernel
theorem dX9_laysGaps_5 : decode cX9_laysGaps 5 = .ok (.iconst 0, 1) := by decide +kernel
theorem dX9_laysGaps_6 : decode cX9_laysGaps 6 = .ok (.istore_n 1, 1) := by decide +kernel
theorem dX9_laysGaps_7 : decode cX9_laysGaps 7 = .ok (.iload_n 1, 1) := by decide +kernel
theorem dX9_laysGaps_8 : decode cX9_laysGaps 8 = .ok (.aload_n 0, 1) := by decide +kernel
theorem dX9_laysGaps_9 : decode cX9_laysGaps 9 = .ok (.getfield 64, 3) := by decide +kernel
theorem dX9_laysGaps_12 : decode cX9_laysGaps 12 = .ok (.bipush 38, 2) := by decide +kernel
theorem dX9_laysGaps_14 : decode cX9_laysGaps 14 = .ok (.iaload, 1) := by decide +kernel
theorem dX9_laysGaps_15 : decode cX9_laysGaps 15 = .ok (.if_icmp .ge 64, 3) := by decide +kernel
theorem dX9_laysGaps_18 : decode cX9_laysGaps 18 = .ok (.iconst (-1), 1) := by decide +kernel
theorem dX9_laysGaps_19 : decode cX9_laysGaps 19 = .ok (.istore_n 2, 1) := by decide +kernel
theorem dX9_laysGaps_20 : decode cX9_laysGaps 20 = .ok (.iconst 0, 1) := by decide +kernel
theorem dX9_laysGaps_21 : decode cX9_laysGaps 21 = .ok (.istore_n 3, 1) := by decide +kernel
theorem dX9_laysGaps_22 : decode cX9_laysGaps 22 = .ok (.iload_n 3, 1) := by decide +kernel
theorem dX9_laysGaps_23 : decode cX9_laysGaps 23 = .ok (.aload_n 0, 1) := by decide +kernel
theorem dX9_laysGaps_24 : decode cX9_laysGaps 24 = .ok (.invokevirtual 173, 3) := by decide +kernel
theorem dX9_laysGaps_27 : decode cX9_laysGaps 27 = .ok (.if_icmp .ge 46, 3) := by decide +kernel
theorem dX9_laysGaps_30 : decode cX9_laysGaps 30 = .ok (.aload_n 0, 1) := by decide +kernel
theorem dX9_laysGaps_31 : decode cX9_laysGaps 31 = .ok (.iload_n 3, 1) := by decide +kernel
theorem dX9_laysGaps_32 : decode cX9_laysGaps 32 = .ok (.iconst 0, 1) := by decide +kernel
theorem dX9_laysGaps_33 : decode cX9_laysGaps 33 = .ok (.invokevirtual 182, 3) := by decide +kernel
theorem dX9_laysGaps_36 : decode cX9_laysGaps 36 = .ok (.iload_n 1, 1) := by decide +kernel
theorem dX9_laysGaps_37 : decode cX9_laysGaps 37 = .ok (.if_icmp .eq 6, 3) := by decide +kernel
theorem dX9_laysGaps_40 : decode cX9_laysGaps 40 = .ok (.goto 27, 3) := by decide +kernel
theorem dX9_laysGaps_43 : decode cX9_laysGaps 43 = .ok (.iload_n 2, 1) := by decide +kernel
theorem dX9_laysGaps_44 : decode cX9_laysGaps 44 = .ok (.iconst (-1), 1) := by decide +kernel
theorem dX9_laysGaps_45 : decode cX9_laysGaps 45 = .ok (.if_icmp .eq 15, 3) := by decide +kernel
theorem dX9_laysGaps_48 : decode cX9_laysGaps 48 = .ok (.aload_n 0, 1) := by decide +kernel
theorem dX9_laysGaps_49 : decode cX9_laysGaps 49 = .ok (.iload_n 1, 1) := by decide +kernel
theorem dX9_laysGaps_50 : decode cX9_laysGaps 50 = .ok (.iload_n 2, 1) := by decide +kernel
theorem dX9_laysGaps_51 : decode cX9_laysGaps 51 = .ok (.aload_n 0, 1) := by decide +kernel
theorem dX9_laysGaps_52 : decode cX9_laysGaps 52 = .ok (.iload_n 3, 1) := by decide +kernel
theorem dX9_laysGaps_53 : decode cX9_laysGaps 53 = .ok (.iconst 3, 1) := by decide +kernel
theorem dX9_laysGaps_54 : decode cX9_laysGaps 54 = .ok (.invokevirtual 182, 3) := by decide +kernel
theorem dX9_laysGaps_57 : decode cX9_laysGaps 57 = .ok (.invokevirtual 230, 3) := by decide +kernel
theorem dX9_laysGaps_60 : decode cX9_laysGaps 60 = .ok (.aload_n 0, 1) := by decide +kernel
theorem dX9_laysGaps_61 : decode cX9_laysGaps 61 = .ok (.iload_n 3, 1) := by decide +kernel
theorem dX9_laysGaps_62 : decode cX9_laysGaps 62 = .ok (.iconst 4, 1) := by decide +kernel
theorem dX9_laysGaps_63 : decode cX9_laysGaps 63 = .ok (.invokevirtual 182, 3) := by decide +kernel
theorem dX9_laysGaps_66 : decode cX9_laysGaps 66 = .ok (.istore_n 2, 1) := by decide +kernel
theorem dX9_laysGaps_67 : decode cX9_laysGaps 67 = .ok (.iinc 3 1, 3) := by decide +kernel
theorem dX9_laysGaps_70 : decode cX9_laysGaps 70 = .ok (.goto (-48), 3) := by decide +kernel
theorem dX9_laysGaps_73 : decode cX9_laysGaps 73 = .ok (.iinc 1 1, 3) := by decide +kernel
theorem dX9_laysGaps_76 : decode cX9_laysGaps 76 = .ok (.goto (-69), 3) := by decide +kernel
theorem dX9_laysGaps_79 : decode cX9_laysGaps 79 = .ok (.iconst 0, 1) := by decide +kernel
theorem dX9_laysGaps_80 : decode cX9_laysGaps 80 = .ok (.istore_n 1, 1) := by decide +kernel
theorem dX9_laysGaps_81 : decode cX9_laysGaps 81 = .ok (.iload_n 1, 1) := by decide +kernel
theorem dX9_laysGaps_82 : decode cX9_laysGaps 82 = .ok (.aload_n 0, 1) := by decide +kernel
theorem dX9_laysGaps_83 : decode cX9_laysGaps 83 = .ok (.invokevirtual 170, 3) := by decide +kernel
theorem dX9_laysGaps_86 : decode cX9_laysGaps 86 = .ok (.if_icmp .ge 109, 3) := by decide +kernel
theorem dX9_laysGaps_89 : decode cX9_laysGaps 89 = .ok (.aload_n 0, 1) := by decide +kernel
theorem dX9_laysGaps_90 : decode cX9_laysGaps 90 = .ok (.getfield 64, 3) := by decide +kernel
theorem dX9_laysGaps_93 : decode cX9_laysGaps 93 = .ok (.bipush 69, 2) := by decide +kernel
theorem dX9_laysGaps_95 : decode cX9_laysGaps 95 = .ok (.iload_n 1, 1) := by decide +kernel
theorem dX9_laysGaps_96 : decode cX9_laysGaps 96 = .ok (.iadd, 1) := by decide +kernel
theorem dX9_laysGaps_97 : decode cX9_laysGaps 97 = .ok (.iaload, 1) := by decide +kernel
theorem dX9_laysGaps_98 : decode cX9_laysGaps 98 = .ok (.istore_n 2, 1) := by decide +kernel
theorem dX9_laysGaps_99 : decode cX9_laysGaps 99 = .ok (.iconst 0, 1) := by decide +kernel
theorem dX9_laysGaps_100 : decode cX9_laysGaps 100 = .ok (.istore_n 3, 1) := by decide +kernel
theorem dX9_laysGaps_101 : decode cX9_laysGaps 101 = .ok (.iload_n 3, 1) := by decide +kernel
theorem dX9_laysGaps_102 : decode cX9_laysGaps 102 = .ok (.aload_n 0, 1) := by decide +kernel
theorem dX9_laysGaps_103 : decode cX9_laysGaps 103 = .ok (.invokevirtual 173, 3) := by decide +kernel
theorem dX9_laysGaps_106 : decode cX9_laysGaps 106 = .ok (.if_icmp .ge 65, 3) := by decide +kernel
theorem dX9_laysGaps_109 : decode cX9_laysGaps 109 = .ok (.aload_n 0, 1) := by decide +kernel
theorem dX9_laysGaps_110 : decode cX9_laysGaps 110 = .ok (.iload_n 3, 1) := by decide +kernel
theorem dX9_laysGaps_111 : decode cX9_laysGaps 111 = .ok (.iconst 5, 1) := by decide +kernel
theorem dX9_laysGaps_112 : decode cX9_laysGaps 112 = .ok (.invokevirtual 182, 3) := by decide +kernel
theorem dX9_laysGaps_115 : decode cX9_laysGaps 115 = .ok (.iload_n 1, 1) := by decide +kernel
theorem dX9_laysGaps_116 : decode cX9_laysGaps 116 = .ok (.invokestatic 132, 3) := by decide +kernel
theorem dX9_laysGaps_119 : decode cX9_laysGaps 119 = .ok (.ifCond .ne 6, 3) := by decide +kernel
theorem dX9_laysGaps_122 : decode cX9_laysGaps 122 = .ok (.goto 43, 3) := by decide +kernel
theorem dX9_laysGaps_125 : decode cX9_laysGaps 125 = .ok (.aload_n 0, 1) := by decide +kernel
theorem dX9_laysGaps_126 : decode cX9_laysGaps 126 = .ok (.bipush 100, 2) := by decide +kernel
theorem dX9_laysGaps_128 : decode cX9_laysGaps 128 = .ok (.iload_n 1, 1) := by decide +kernel
theorem dX9_laysGaps_129 : decode cX9_laysGaps 129 = .ok (.iadd, 1) := by decide +kernel
theorem dX9_laysGaps_130 : decode cX9_laysGaps 130 = .ok (.iload_n 2, 1) := by decide +kernel
theorem dX9_laysGaps_131 : decode cX9_laysGaps 131 = .ok (.aload_n 0, 1) := by decide +kernel
theorem dX9_laysGaps_132 : decode cX9_laysGaps 132 = .ok (.getfield 64, 3) := by decide +kernel
theorem dX9_laysGaps_135 : decode cX9_laysGaps 135 = .ok (.sipush 197, 3) := by decide +kernel
theorem dX9_laysGaps_138 : decode cX9_laysGaps 138 = .ok (.bipush 16, 2) := by decide +kernel
theorem dX9_laysGaps_140 : decode cX9_laysGaps 140 = .ok (.iload_n 3, 1) := by decide +kernel
theorem dX9_laysGaps_141 : decode cX9_laysGaps 141 = .ok (.imul, 1) := by decide +kernel
theorem dX9_laysGaps_142 : decode cX9_laysGaps 142 = .ok (.iadd, 1) := by decide +kernel
theorem dX9_laysGaps_143 : decode cX9_laysGaps 143 = .ok (.iload_n 1, 1) := by decide +kernel
theorem dX9_laysGaps_144 : decode cX9_laysGaps 144 = .ok (.iadd, 1) := by decide +kernel
theorem dX9_laysGaps_145 : decode cX9_laysGaps 145 = .ok (.iaload, 1) := by decide +kernel
theorem dX9_laysGaps_146 : decode cX9_laysGaps 146 = .ok (.invokevirtual 230, 3) := by decide +kernel
theorem dX9_laysGaps_149 : decode cX9_laysGaps 149 = .ok (.aload_n 0, 1) := by decide +kernel
theorem dX9_laysGaps_150 : decode cX9_laysGaps 150 = .ok (.getfield 64, 3) := by decide +kernel
theorem dX9_laysGaps_153 : decode cX9_laysGaps 153 = .ok (.sipush 453, 3) := by decide +kernel
theorem dX9_laysGaps_156 : decode cX9_laysGaps 156 = .ok (.bipush 16, 2) := by decide +kernel
theorem dX9_laysGaps_158 : decode cX9_laysGaps 158 = .ok (.iload_n 3, 1) := by decide +kernel
theorem dX9_laysGaps_159 : decode cX9_laysGaps 159 = .ok (.imul, 1) := by decide +kernel
theorem dX9_laysGaps_160 : decode cX9_laysGaps 160 = .ok (.iadd, 1) := by decide +kernel
theorem dX9_laysGaps_161 : decode cX9_laysGaps 161 = .ok (.iload_n 1, 1) := by decide +kernel
theorem dX9_laysGaps_162 : decode cX9_laysGaps 162 = .ok (.iadd, 1) := by decide +kernel
theorem dX9_laysGaps_163 : decode cX9_laysGaps 163 = .ok (.iaload, 1) := by decide +kernel
theorem dX9_laysGaps_164 : decode cX9_laysGaps 164 = .ok (.istore_n 2, 1) := by decide +kernel
theorem dX9_laysGaps_165 : decode cX9_laysGaps 165 = .ok (.iinc 3 1, 3) := by decide +kernel
theorem dX9_laysGaps_168 : decode cX9_laysGaps 168 = .ok (.goto (-67), 3) := by decide +kernel
theorem dX9_laysGaps_171 : decode cX9_laysGaps 171 = .ok (.aload_n 0, 1) := by decide +kernel
theorem dX9_laysGaps_172 : decode cX9_laysGaps 172 = .ok (.bipush 100, 2) := by decide +kernel
theorem dX9_laysGaps_174 : decode cX9_laysGaps 174 = .ok (.iload_n 1, 1) := by decide +kernel
theorem dX9_laysGaps_175 : decode cX9_laysGaps 175 = .ok (.iadd, 1) := by decide +kernel
theorem dX9_laysGaps_176 : decode cX9_laysGaps 176 = .ok (.iload_n 2, 1) := by decide +kernel
theorem dX9_laysGaps_177 : decode cX9_laysGaps 177 = .ok (.aload_n 0, 1) := by decide +kernel
theorem dX9_laysGaps_178 : decode cX9_laysGaps 178 = .ok (.getfield 64, 3) := by decide +kernel
theorem dX9_laysGaps_181 : decode cX9_laysGaps 181 = .ok (.bipush 85, 2) := by decide +kernel
theorem dX9_laysGaps_183 : decode cX9_laysGaps 183 = .ok (.iload_n 1, 1) := by decide +kernel
theorem dX9_laysGaps_184 : decode cX9_laysGaps 184 = .ok (.iadd, 1) := by decide +kernel
theorem dX9_laysGaps_185 : decode cX9_laysGaps 185 = .ok (.iaload, 1) := by decide +kernel
theorem dX9_laysGaps_186 : decode cX9_laysGaps 186 = .ok (.invokevirtual 230, 3) := by decide +kernel
theorem dX9_laysGaps_189 : decode cX9_laysGaps 189 = .ok (.iinc 1 1, 3) := by decide +kernel
theorem dX9_laysGaps_192 : decode cX9_laysGaps 192 = .ok (.goto (-111), 3) := by decide +kernel
theorem dX9_laysGaps_195 : decode cX9_laysGaps 195 = .ok (.return_, 1) := by decide +kernel
theorem dX9_changed_0 : decode cX9_changed 0 = .ok (.iconst 0, 1) := by decide +kernel
theorem dX9_changed_1 : decode cX9_changed 1 = .ok (.istore_n 3, 1) := by decide +kernel
theorem dX9_changed_2 : decode cX9_changed 2 = .ok (.iconst 0, 1) := by decide +kernel
theorem dX9_changed_3 : decode cX9_changed 3 = .ok (.istore 4, 2) := by decide +kernel
theorem dX9_changed_5 : decode cX9_changed 5 = .ok (.iload 4, 2) := by decide +kernel
theorem dX9_changed_7 : decode cX9_changed 7 = .ok (.aload_n 0, 1) := by decide +kernel
theorem dX9_changed_8 : decode cX9_changed 8 = .ok (.invokevirtual 170, 3) := by decide +kernel
theorem dX9_changed_11 : decode cX9_changed 11 = .ok (.if_icmp .ge 115, 3) := by decide +kernel
theorem dX9_changed_14 : decode cX9_changed 14 = .ok (.iconst (-1), 1) := by decide +kernel
theorem dX9_changed_15 : decode cX9_changed 15 = .ok (.istore 5, 2) := by decide +kernel
theorem dX9_changed_17 : decode cX9_changed 17 = .ok (.iconst 0, 1) := by decide +kernel
theorem dX9_changed_18 : decode cX9_changed 18 = .ok (.istore 6, 2) := by decide +kernel
theorem dX9_changed_20 : decode cX9_changed 20 = .ok (.iload 6, 2) := by decide +kernel
theorem dX9_changed_22 : decode cX9_changed 22 = .ok (.aload_n 0, 1) := by decide +kernel
theorem dX9_changed_23 : decode cX9_changed 23 = .ok (.invokevirtual 173, 3) := by decide +kernel
theorem dX9_changed_26 : decode cX9_changed 26 = .ok (.if_icmp .ge 94, 3) := by decide +kernel
theorem dX9_changed_29 : decode cX9_changed 29 = .ok (.aload_n 0, 1) := by decide +kernel
theorem dX9_changed_30 : decode cX9_changed 30 = .ok (.iload 6, 2) := by decide +kernel
theorem dX9_changed_32 : decode cX9_changed 32 = .ok (.iconst 5, 1) := by decide +kernel
theorem dX9_changed_33 : decode cX9_changed 33 = .ok (.invokevirtual 182, 3) := by decide +kernel
theorem dX9_changed_36 : decode cX9_changed 36 = .ok (.iload 4, 2) := by decide +kernel
theorem dX9_changed_38 : decode cX9_changed 38 = .ok (.invokestatic 132, 3) := by decide +kernel
theorem dX9_changed_41 : decode cX9_changed 41 = .ok (.ifCond .ne 6, 3) := by decide +kernel
theorem dX9_changed_44 : decode cX9_changed 44 = .ok (.goto 70, 3) := by decide +kernel
theorem dX9_changed_47 : decode cX9_changed 47 = .ok (.iload 5, 2) := by decide +kernel
theorem dX9_changed_49 : decode cX9_changed 49 = .ok (.iload_n 1, 1) := by decide +kernel
theorem dX9_changed_50 : decode cX9_changed 50 = .ok (.if_icmp .ne 45, 3) := by decide +kernel
theorem dX9_changed_53 : decode cX9_changed 53 = .ok (.aload_n 0, 1) := by decide +kernel
theorem dX9_changed_54 : decode cX9_changed 54 = .ok (.getfield 64, 3) := by decide +kernel
theorem dX9_changed_57 : decode cX9_changed 57 = .ok (.sipush 197, 3) := by decide +kernel
theorem dX9_changed_60 : decode cX9_changed 60 = .ok (.bipush 16, 2) := by decide +kernel
theorem dX9_changed_62 : decode cX9_changed 62 = .ok (.iload 6, 2) := by decide +kernel
theorem dX9_changed_64 : decode cX9_changed 64 = .ok (.imul, 1) := by decide +kernel
theorem dX9_changed_65 : decode cX9_changed 65 = .ok (.iadd, 1) := by decide +kernel
theorem dX9_changed_66 : decode cX9_changed 66 = .ok (.iload 4, 2) := by decide +kernel
theorem dX9_changed_68 : decode cX9_changed 68 = .ok (.iadd, 1) := by decide +kernel
theorem dX9_changed_69 : decode cX9_changed 69 = .ok (.iaload, 1) := by decide +kernel
theorem dX9_changed_70 : decode cX9_changed 70 = .ok (.iload_n 1, 1) := by decide +kernel
theorem dX9_changed_71 : decode cX9_changed 71 = .ok (.if_icmp .ne 24, 3) := by decide +kernel
theorem dX9_changed_74 : decode cX9_changed 74 = .ok (.iload_n 3, 1) := by decide +kernel
theorem dX9_changed_75 : decode cX9_changed 75 = .ok (.iload_n 2, 1) := by decide +kernel
theorem dX9_changed_76 : decode cX9_changed 76 = .ok (.ifCond .eq 16, 3) := by decide +kernel
theorem dX9_changed_79 : decode cX9_changed 79 = .ok (.aload_n 0, 1) := by decide +kernel
theorem dX9_changed_80 : decode cX9_changed 80 = .ok (.getfield 64, 3) := by decide +kernel
theorem dX9_changed_83 : decode cX9_changed 83 = .ok (.bipush 20, 2) := by decide +kernel
theorem dX9_changed_85 : decode cX9_changed 85 = .ok (.iload 4, 2) := by decide +kernel
theorem dX9_changed_87 : decode cX9_changed 87 = .ok (.iadd, 1) := by decide +kernel
theorem dX9_changed_88 : decode cX9_changed 88 = .ok (.iaload, 1) := by decide +kernel
theorem dX9_changed_89 : decode cX9_changed 89 = .ok (.goto 4, 3) := by decide +kernel
theorem dX9_changed_92 : decode cX9_changed 92 = .ok (.iconst 1, 1) := by decide +kernel
theorem dX9_changed_93 : decode cX9_changed 93 = .ok (.iadd, 1) := by decide +kernel
theorem dX9_changed_94 : decode cX9_changed 94 = .ok (.istore_n 3, 1) := by decide +kernel
theorem dX9_changed_95 : decode cX9_changed 95 = .ok (.aload_n 0, 1) := by decide +kernel
theorem dX9_changed_96 : decode cX9_changed 96 = .ok (.getfield 64, 3) := by decide +kernel
theorem dX9_changed_99 : decode cX9_changed 99 = .ok (.sipush 453, 3) := by decide +kernel
theorem dX9_changed_102 : decode cX9_changed 102 = .ok (.bipush 16, 2) := by decide +kernel
theorem dX9_changed_104 : decode cX9_changed 104 = .ok (.iload 6, 2) := by decide +kernel
theorem dX9_changed_106 : decode cX9_changed 106 = .ok (.imul, 1) := by decide +kernel
theorem dX9_changed_107 : decode cX9_changed 107 = .ok (.iadd, 1) := by decide +kernel
theorem dX9_changed_108 : decode cX9_changed 108 = .ok (.iload 4, 2) := by decide +kernel
theorem dX9_changed_110 : decode cX9_changed 110 = .ok (.iadd, 1) := by decide +kernel
theorem dX9_changed_111 : decode cX9_changed 111 = .ok (.iaload, 1) := by decide +kernel
theorem dX9_changed_112 : decode cX9_changed 112 = .ok (.istore 5, 2) := by decide +kernel
theorem dX9_changed_114 : decode cX9_changed 114 = .ok (.iinc 6 1, 3) := by decide +kernel
theorem dX9_changed_117 : decode cX9_changed 117 = .ok (.goto (-97), 3) := by decide +kernel
theorem dX9_changed_120 : decode cX9_changed 120 = .ok (.iinc 4 1, 3) := by decide +kernel
theorem dX9_changed_123 : decode cX9_changed 123 = .ok (.goto (-118), 3) := by decide +kernel
theorem dX9_changed_126 : decode cX9_changed 126 = .ok (.iload_n 3, 1) := by decide +kernel
theorem dX9_changed_127 : decode cX9_changed 127 = .ok (.ireturn, 1) := by decide +kernel
theorem dX9_hubs_0 : decode cX9_hubs 0 = .ok (.iconst 0, 1) := by decide +kernel
theorem dX9_hubs_1 : decode cX9_hubs 1 = .ok (.istore_n 1, 1) := by decide +kernel
theorem dX9_hubs_2 : decode cX9_hubs 2 = .ok (.iconst 0, 1) := by decide +kernel
theorem dX9_hubs_3 : decode cX9_hubs 3 = .ok (.istore_n 2, 1) := by decide +kernel
theorem dX9_hubs_4 : decode cX9_hubs 4 = .ok (.iload_n 2, 1) := by decide +kernel
theorem dX9_hubs_5 : decode cX9_hubs 5 = .ok (.aload_n 0, 1) := by decide +kernel
theorem dX9_hubs_6 : decode cX9_hubs 6 = .ok (.getfield 64, 3) := by decide +kernel
theorem dX9_hubs_9 : decode cX9_hubs 9 = .ok (.bipush 37, 2) := by decide +kernel
theorem dX9_hubs_11 : decode cX9_hubs 11 = .ok (.iaload, 1) := by decide +kernel
theorem dX9_hubs_12 : decode cX9_hubs 12 = .ok (.if_icmp .ge 24, 3) := by decide +kernel
theorem dX9_hubs_15 : decode cX9_hubs 15 = .ok (.aload_n 0, 1) := by decide +kernel
theorem dX9_hubs_16 : decode cX9_hubs 16 = .ok (.iload_n 2, 1) := by decide +kernel
theorem dX9_hubs_17 : decode cX9_hubs 17 = .ok (.iconst 0, 1) := by decide +kernel
theorem dX9_hubs_18 : decode cX9_hubs 18 = .ok (.invokevirtual 233, 3) := by decide +kernel
theorem dX9_hubs_21 : decode cX9_hubs 21 = .ok (.ifCond .le 9, 3) := by decide +kernel
theorem dX9_hubs_24 : decode cX9_hubs 24 = .ok (.iload_n 1, 1) := by decide +kernel
theorem dX9_hubs_25 : decode cX9_hubs 25 = .ok (.iconst 1, 1) := by decide +kernel
theorem dX9_hubs_26 : decode cX9_hubs 26 = .ok (.iload_n 2, 1) := by decide +kernel
theorem dX9_hubs_27 : decode cX9_hubs 27 = .ok (.ishl, 1) := by decide +kernel
theorem dX9_hubs_28 : decode cX9_hubs 28 = .ok (.ior, 1) := by decide +kernel
theorem dX9_hubs_29 : decode cX9_hubs 29 = .ok (.istore_n 1, 1) := by decide +kernel
theorem dX9_hubs_30 : decode cX9_hubs 30 = .ok (.iinc 2 1, 3) := by decide +kernel
theorem dX9_hubs_33 : decode cX9_hubs 33 = .ok (.goto (-29), 3) := by decide +kernel
theorem dX9_hubs_36 : decode cX9_hubs 36 = .ok (.iload_n 1, 1) := by decide +kernel
theorem dX9_hubs_37 : decode cX9_hubs 37 = .ok (.ireturn, 1) := by decide +kernel
theorem dX9_now_0 : decode cX9_now 0 = .ok (.aload_n 0, 1) := by decide +kernel
theorem dX9_now_1 : decode cX9_now 1 = .ok (.iconst 0, 1) := by decide +kernel
theorem dX9_now_2 : decode cX9_now 2 = .ok (.putfield 1, 3) := by decide +kernel
theorem dX9_now_5 : decode cX9_now 5 = .ok (.iconst 0, 1) := by decide +kernel
theorem dX9_now_6 : decode cX9_now 6 = .ok (.istore_n 2, 1) := by decide +kernel
theorem dX9_now_7 : decode cX9_now 7 = .ok (.iload_n 1, 1) := by decide +kernel
theorem dX9_now_8 : decode cX9_now 8 = .ok (.tableswitch 188 0 11 #[64, 72, 80, 88, 93, 98, 124, 155, 164, 169, 178, 183], 64) := by decide +kernel
theorem dX9_now_72 : decode cX9_now 72 = .ok (.aload_n 0, 1) := by decide +kernel
theorem dX9_now_73 : decode cX9_now 73 = .ok (.getfield 64, 3) := by decide +kernel
theorem dX9_now_76 : decode cX9_now 76 = .ok (.bipush 36, 2) := by decide +kernel
theorem dX9_now_78 : decode cX9_now 78 = .ok (.iaload, 1) := by decide +kernel
theorem dX9_now_79 : decode cX9_now 79 = .ok (.ireturn, 1) := by decide +kernel
theorem dX9_now_80 : decode cX9_now 80 = .ok (.aload_n 0, 1) := by decide +kernel
theorem dX9_now_81 : decode cX9_now 81 = .ok (.getfield 64, 3) := by decide +kernel
theorem dX9_now_84 : decode cX9_now 84 = .ok (.bipush 37, 2) := by decide +kernel
theorem dX9_now_86 : decode cX9_now 86 = .ok (.iaload, 1) := by decide +kernel
theorem dX9_now_87 : decode cX9_now 87 = .ok (.ireturn, 1) := by decide +kernel
theorem dX9_now_88 : decode cX9_now 88 = .ok (.aload_n 0, 1) := by decide +kernel
theorem dX9_now_89 : decode cX9_now 89 = .ok (.getfield 64, 3) := by decide +kernel
theorem dX9_now_92 : decode cX9_now 92 = .ok (.bipush 38, 2) := by decide +kernel
theorem dX9_now_94 : decode cX9_now 94 = .ok (.iaload, 1) := by decide +kernel
theorem dX9_now_95 : decode cX9_now 95 = .ok (.ireturn, 1) := by decide +kernel
theorem dX9_now_96 : decode cX9_now 96 = .ok (.aload_n 0, 1) := by decide +kernel
theorem dX9_now_97 : decode cX9_now 97 = .ok (.invokevirtual 170, 3) := by decide +kernel
theorem dX9_now_100 : decode cX9_now 100 = .ok (.ireturn, 1) := by decide +kernel
theorem dX9_now_101 : decode cX9_now 101 = .ok (.aload_n 0, 1) := by decide +kernel
theorem dX9_now_102 : decode cX9_now 102 = .ok (.invokevirtual 173, 3) := by decide +kernel
theorem dX9_now_105 : decode cX9_now 105 = .ok (.ireturn, 1) := by decide +kernel
theorem dX9_now_106 : decode cX9_now 106 = .ok (.iconst 0, 1) := by decide +kernel
theorem dX9_now_107 : decode cX9_now 107 = .ok (.istore_n 3, 1) := by decide +kernel
theorem dX9_now_108 : decode cX9_now 108 = .ok (.iload_n 3, 1) := by decide +kernel
theorem dX9_now_109 : decode cX9_now 109 = .ok (.iconst 4, 1) := by decide +kernel
theorem dX9_now_110 : decode cX9_now 110 = .ok (.if_icmp .ge 20, 3) := by decide +kernel
theorem dX9_now_113 : decode cX9_now 113 = .ok (.iload_n 2, 1) := by decide +kernel
theorem dX9_now_114 : decode cX9_now 114 = .ok (.aload_n 0, 1) := by decide +kernel
theorem dX9_now_115 : decode cX9_now 115 = .ok (.getfield 64, 3) := by decide +kernel
theorem dX9_now_118 : decode cX9_now 118 = .ok (.iconst 0, 1) := by decide +kernel
theorem dX9_now_119 : decode cX9_now 119 = .ok (.iload_n 3, 1) := by decide +kernel
theorem dX9_now_120 : decode cX9_now 120 = .ok (.iadd, 1) := by decide +kernel
theorem dX9_now_121 : decode cX9_now 121 = .ok (.iaload, 1) := by decide +kernel
theorem dX9_now_122 : decode cX9_now 122 = .ok (.iadd, 1) := by decide +kernel
theorem dX9_now_123 : decode cX9_now 123 = .ok (.istore_n 2, 1) := by decide +kernel
theorem dX9_now_124 : decode cX9_now 124 = .ok (.iinc 3 1, 3) := by decide +kernel
theorem dX9_now_127 : decode cX9_now 127 = .ok (.goto (-19), 3) := by decide +kernel
theorem dX9_now_130 : decode cX9_now 130 = .ok (.iload_n 2, 1) := by decide +kernel
theorem dX9_now_131 : decode cX9_now 131 = .ok (.ireturn, 1) := by decide +kernel
theorem dX9_now_132 : decode cX9_now 132 = .ok (.aload_n 0, 1) := by decide +kernel
theorem dX9_now_133 : decode cX9_now 133 = .ok (.invokevirtual 237, 3) := by decide +kernel
theorem dX9_now_136 : decode cX9_now 136 = .ok (.iconst 0, 1) := by decide +kernel
theorem dX9_now_137 : decode cX9_now 137 = .ok (.istore_n 3, 1) := by decide +kernel
theorem dX9_now_138 : decode cX9_now 138 = .ok (.iload_n 3, 1) := by decide +kernel
theorem dX9_now_139 : decode cX9_now 139 = .ok (.aload_n 0, 1) := by decide +kernel
theorem dX9_now_140 : decode cX9_now 140 = .ok (.getfield 176, 3) := by decide +kernel
theorem dX9_now_143 : decode cX9_now 143 = .ok (.if_icmp .ge 18, 3) := by decide +kernel
theorem dX9_now_146 : decode cX9_now 146 = .ok (.iload_n 2, 1) := by decide +kernel
theorem dX9_now_147 : decode cX9_now 147 = .ok (.aload_n 0, 1) := by decide +kernel
theorem dX9_now_148 : decode cX9_now 148 = .ok (.getfield 88, 3) := by decide +kernel
theorem dX9_now_151 : decode cX9_now 151 = .ok (.iload_n 3, 1) := by decide +kernel
theorem dX9_now_152 : decode cX9_now 152 = .ok (.iaload, 1) := by decide +kernel
theorem dX9_now_153 : decode cX9_now 153 = .ok (.iadd, 1) := by decide +kernel
theorem dX9_now_154 : decode cX9_now 154 = .ok (.istore_n 2, 1) := by decide +kernel
theorem dX9_now_155 : decode cX9_now 155 = .ok (.iinc 3 1, 3) := by decide +kernel
theorem dX9_now_158 : decode cX9_now 158 = .ok (.goto (-20), 3) := by decide +kernel
theorem dX9_now_161 : decode cX9_now 161 = .ok (.iload_n 2, 1) := by decide +kernel
theorem dX9_now_162 : decode cX9_now 162 = .ok (.ireturn, 1) := by decide +kernel
theorem dX9_now_163 : decode cX9_now 163 = .ok (.aload_n 0, 1) := by decide +kernel
theorem dX9_now_164 : decode cX9_now 164 = .ok (.invokevirtual 237, 3) := by decide +kernel
theorem dX9_now_167 : decode cX9_now 167 = .ok (.aload_n 0, 1) := by decide +kernel
theorem dX9_now_168 : decode cX9_now 168 = .ok (.getfield 195, 3) := by decide +kernel
theorem dX9_now_171 : decode cX9_now 171 = .ok (.ireturn, 1) := by decide +kernel
theorem dX9_now_172 : decode cX9_now 172 = .ok (.aload_n 0, 1) := by decide +kernel
theorem dX9_now_173 : decode cX9_now 173 = .ok (.invokevirtual 240, 3) := by decide +kernel
theorem dX9_now_176 : decode cX9_now 176 = .ok (.ireturn, 1) := by decide +kernel
theorem dX9_now_177 : decode cX9_now 177 = .ok (.aload_n 0, 1) := by decide +kernel
theorem dX9_now_178 : decode cX9_now 178 = .ok (.invokevirtual 243, 3) := by decide +kernel
theorem dX9_now_181 : decode cX9_now 181 = .ok (.aload_n 0, 1) := by decide +kernel
theorem dX9_now_182 : decode cX9_now 182 = .ok (.getfield 227, 3) := by decide +kernel
theorem dX9_now_185 : decode cX9_now 185 = .ok (.ireturn, 1) := by decide +kernel
theorem dX9_now_186 : decode cX9_now 186 = .ok (.aload_n 0, 1) := by decide +kernel
theorem dX9_now_187 : decode cX9_now 187 = .ok (.getfield 167, 3) := by decide +kernel
theorem dX9_now_190 : decode cX9_now 190 = .ok (.ireturn, 1) := by decide +kernel
theorem dX9_now_191 : decode cX9_now 191 = .ok (.aload_n 0, 1) := by decide +kernel
theorem dX9_now_192 : decode cX9_now 192 = .ok (.getfield 11, 3) := by decide +kernel
theorem dX9_now_195 : decode cX9_now 195 = .ok (.ireturn, 1) := by decide +kernel
theorem dX9_now_196 : decode cX9_now 196 = .ok (.iconst (-1), 1) := by decide +kernel
theorem dX9_now_197 : decode cX9_now 197 = .ok (.ireturn, 1) := by decide +kernel
theorem dX9_direct_0 : decode cX9_direct 0 = .ok (.aload_n 0, 1) := by decide +kernel
theorem dX9_direct_1 : decode cX9_direct 1 = .ok (.iconst 0, 1) := by decide +kernel
theorem dX9_direct_2 : decode cX9_direct 2 = .ok (.putfield 1, 3) := by decide +kernel
theorem dX9_direct_5 : decode cX9_direct 5 = .ok (.aload_n 0, 1) := by decide +kernel
theorem dX9_direct_6 : decode cX9_direct 6 = .ok (.iload_n 1, 1) := by decide +kernel
theorem dX9_direct_7 : decode cX9_direct 7 = .ok (.invokevirtual 246, 3) := by decide +kernel
theorem dX9_direct_10 : decode cX9_direct 10 = .ok (.ifCond .eq 23, 3) := by decide +kernel
theorem dX9_direct_13 : decode cX9_direct 13 = .ok (.aload_n 0, 1) := by decide +kernel
theorem dX9_direct_14 : decode cX9_direct 14 = .ok (.iload_n 2, 1) := by decide +kernel
theorem dX9_direct_15 : decode cX9_direct 15 = .ok (.invokevirtual 246, 3) := by decide +kernel
theorem dX9_direct_18 : decode cX9_direct 18 = .ok (.ifCond .eq 15, 3) := by decide +kernel
theorem dX9_direct_21 : decode cX9_direct 21 = .ok (.aload_n 0, 1) := by decide +kernel
theorem dX9_direct_22 : decode cX9_direct 22 = .ok (.getfield 64, 3) := by decide +kernel
theorem dX9_direct_25 : decode cX9_direct 25 = .ok (.iload_n 1, 1) := by decide +kernel
theorem dX9_direct_26 : decode cX9_direct 26 = .ok (.iload_n 2, 1) := by decide +kernel
theorem dX9_direct_27 : decode cX9_direct 27 = .ok (.invokestatic 128, 3) := by decide +kernel
theorem dX9_direct_30 : decode cX9_direct 30 = .ok (.goto 4, 3) := by decide +kernel
theorem dX9_direct_33 : decode cX9_direct 33 = .ok (.iconst (-1), 1) := by decide +kernel
theorem dX9_direct_34 : decode cX9_direct 34 = .ok (.ireturn, 1) := by decide +kernel
theorem dX9_truck_0 : decode cX9_truck 0 = .ok (.aload_n 0, 1) := by decide +kernel
theorem dX9_truck_1 : decode cX9_truck 1 = .ok (.iconst 0, 1) := by decide +kernel
theorem dX9_truck_2 : decode cX9_truck 2 = .ok (.putfield 1, 3) := by decide +kernel
theorem dX9_truck_5 : decode cX9_truck 5 = .ok (.aload_n 0, 1) := by decide +kernel
theorem dX9_truck_6 : decode cX9_truck 6 = .ok (.iload_n 1, 1) := by decide +kernel
theorem dX9_truck_7 : decode cX9_truck 7 = .ok (.invokevirtual 249, 3) := by decide +kernel
theorem dX9_truck_10 : decode cX9_truck 10 = .ok (.ifCond .eq 13, 3) := by decide +kernel
theorem dX9_truck_13 : decode cX9_truck 13 = .ok (.iload_n 2, 1) := by decide +kernel
theorem dX9_truck_14 : decode cX9_truck 14 = .ok (.iconst 0, 1) := by decide +kernel
theorem dX9_truck_15 : decode cX9_truck 15 = .ok (.bipush 7, 2) := by decide +kernel
theorem dX9_truck_17 : decode cX9_truck 17 = .ok (.invokestatic 113, 3) := by decide +kernel
theorem dX9_truck_20 : decode cX9_truck 20 = .ok (.ifCond .ne 5, 3) := by decide +kernel
theorem dX9_truck_23 : decode cX9_truck 23 = .ok (.iconst (-1), 1) := by decide +kernel
theorem dX9_truck_24 : decode cX9_truck 24 = .ok (.ireturn, 1) := by decide +kernel
theorem dX9_truck_25 : decode cX9_truck 25 = .ok (.iload_n 2, 1) := by decide +kernel
theorem dX9_truck_26 : decode cX9_truck 26 = .ok (.iconst 2, 1) := by decide +kernel
theorem dX9_truck_27 : decode cX9_truck 27 = .ok (.if_icmp .ge 28, 3) := by decide +kernel
theorem dX9_truck_30 : decode cX9_truck 30 = .ok (.iload_n 2, 1) := by decide +kernel
theorem dX9_truck_31 : decode cX9_truck 31 = .ok (.ifCond .ne 15, 3) := by decide +kernel
theorem dX9_truck_34 : decode cX9_truck 34 = .ok (.aload_n 0, 1) := by decide +kernel
theorem dX9_truck_35 : decode cX9_truck 35 = .ok (.getfield 64, 3) := by decide +kernel
theorem dX9_truck_38 : decode cX9_truck 38 = .ok (.bipush 65, 2) := by decide +kernel
theorem dX9_truck_40 : decode cX9_truck 40 = .ok (.iload_n 1, 1) := by decide +kernel
theorem dX9_truck_41 : decode cX9_truck 41 = .ok (.iadd, 1) := by decide +kernel
theorem dX9_truck_42 : decode cX9_truck 42 = .ok (.iaload, 1) := by decide +kernel
theorem dX9_truck_43 : decode cX9_truck 43 = .ok (.goto 11, 3) := by decide +kernel
theorem dX9_truck_46 : decode cX9_truck 46 = .ok (.aload_n 0, 1) := by decide +kernel
theorem dX9_truck_47 : decode cX9_truck 47 = .ok (.getfield 64, 3) := by decide +kernel
theorem dX9_truck_50 : decode cX9_truck 50 = .ok (.iconst 0, 1) := by decide +kernel
theorem dX9_truck_51 : decode cX9_truck 51 = .ok (.iload_n 1, 1) := by decide +kernel
theorem dX9_truck_52 : decode cX9_truck 52 = .ok (.iadd, 1) := by decide +kernel
theorem dX9_truck_53 : decode cX9_truck 53 = .ok (.iaload, 1) := by decide +kernel
theorem dX9_truck_54 : decode cX9_truck 54 = .ok (.ireturn, 1) := by decide +kernel
theorem dX9_truck_55 : decode cX9_truck 55 = .ok (.iload_n 2, 1) := by decide +kernel
theorem dX9_truck_56 : decode cX9_truck 56 = .ok (.bipush 6, 2) := by decide +kernel
theorem dX9_truck_58 : decode cX9_truck 58 = .ok (.if_icmp .ne 7, 3) := by decide +kernel
theorem dX9_truck_61 : decode cX9_truck 61 = .ok (.iconst (-1), 1) := by decide +kernel
theorem dX9_truck_62 : decode cX9_truck 62 = .ok (.goto 4, 3) := by decide +kernel
theorem dX9_truck_65 : decode cX9_truck 65 = .ok (.iconst 0, 1) := by decide +kernel
theorem dX9_truck_66 : decode cX9_truck 66 = .ok (.istore_n 3, 1) := by decide +kernel
theorem dX9_truck_67 : decode cX9_truck 67 = .ok (.iconst 0, 1) := by decide +kernel
theorem dX9_truck_68 : decode cX9_truck 68 = .ok (.istore 4, 2) := by decide +kernel
theorem dX9_truck_70 : decode cX9_truck 70 = .ok (.iload 4, 2) := by decide +kernel
theorem dX9_truck_72 : decode cX9_truck 72 = .ok (.aload_n 0, 1) := by decide +kernel
theorem dX9_truck_73 : decode cX9_truck 73 = .ok (.invokevirtual 173, 3) := by decide +kernel
theorem dX9_truck_76 : decode cX9_truck 76 = .ok (.if_icmp .ge 146, 3) := by decide +kernel
theorem dX9_truck_79 : decode cX9_truck 79 = .ok (.aload_n 0, 1) := by decide +kernel
theorem dX9_truck_80 : decode cX9_truck 80 = .ok (.iload 4, 2) := by decide +kernel
theorem dX9_truck_82 : decode cX9_truck 82 = .ok (.iconst 0, 1) := by decide +kernel
theorem dX9_truck_83 : decode cX9_truck 83 = .ok (.invokevirtual 182, 3) := by decide +kernel
theorem dX9_truck_86 : decode cX9_truck 86 = .ok (.iload_n 1, 1) := by decide +kernel
theorem dX9_truck_87 : decode cX9_truck 87 = .ok (.if_icmp .eq 6, 3) := by decide +kernel
theorem dX9_truck_90 : decode cX9_truck 90 = .ok (.goto 126, 3) := by decide +kernel
theorem dX9_truck_93 : decode cX9_truck 93 = .ok (.iload_n 2, 1) := by decide +kernel
theorem dX9_truck_94 : decode cX9_truck 94 = .ok (.tableswitch 113 2 6 #[34, 44, 57, 70, 102], 34) := by decide +kernel
theorem dX9_truck_128 : decode cX9_truck 128 = .ok (.iload_n 3, 1) := by decide +kernel
theorem dX9_truck_129 : decode cX9_truck 129 = .ok (.iconst 1, 1) := by decide +kernel
theorem dX9_truck_130 : decode cX9_truck 130 = .ok (.iload 4, 2) := by decide +kernel
theorem dX9_truck_132 : decode cX9_truck 132 = .ok (.ishl, 1) := by decide +kernel
theorem dX9_truck_133 : decode cX9_truck 133 = .ok (.ior, 1) := by decide +kernel
theorem dX9_truck_134 : decode cX9_truck 134 = .ok (.istore_n 3, 1) := by decide +kernel
theorem dX9_truck_135 : decode cX9_truck 135 = .ok (.goto 81, 3) := by decide +kernel
theorem dX9_truck_138 : decode cX9_truck 138 = .ok (.iload_n 3, 1) := by decide +kernel
theorem dX9_truck_139 : decode cX9_truck 139 = .ok (.aload_n 0, 1) := by decide +kernel
theorem dX9_truck_140 : decode cX9_truck 140 = .ok (.iload 4, 2) := by decide +kernel
theorem dX9_truck_142 : decode cX9_truck 142 = .ok (.iconst 1, 1) := by decide +kernel
theorem dX9_truck_143 : decode cX9_truck 143 = .ok (.invokevirtual 182, 3) := by decide +kernel
theorem dX9_truck_146 : decode cX9_truck 146 = .ok (.iadd, 1) := by decide +kernel
theorem dX9_truck_147 : decode cX9_truck 147 = .ok (.istore_n 3, 1) := by decide +kernel
theorem dX9_truck_148 : decode cX9_truck 148 = .ok (.goto 68, 3) := by decide +kernel
theorem dX9_truck_151 : decode cX9_truck 151 = .ok (.iload_n 3, 1) := by decide +kernel
theorem dX9_truck_152 : decode cX9_truck 152 = .ok (.aload_n 0, 1) := by decide +kernel
theorem dX9_truck_153 : decode cX9_truck 153 = .ok (.iload 4, 2) := by decide +kernel
theorem dX9_truck_155 : decode cX9_truck 155 = .ok (.iconst 2, 1) := by decide +kernel
theorem dX9_truck_156 : decode cX9_truck 156 = .ok (.invokevirtual 182, 3) := by decide +kernel
theorem dX9_truck_159 : decode cX9_truck 159 = .ok (.iadd, 1) := by decide +kernel
theorem dX9_truck_160 : decode cX9_truck 160 = .ok (.istore_n 3, 1) := by decide +kernel
theorem dX9_truck_161 : decode cX9_truck 161 = .ok (.goto 55, 3) := by decide +kernel
theorem dX9_truck_164 : decode cX9_truck 164 = .ok (.iload_n 3, 1) := by decide +kernel
theorem dX9_truck_165 : decode cX9_truck 165 = .ok (.aload_n 0, 1) := by decide +kernel
theorem dX9_truck_166 : decode cX9_truck 166 = .ok (.getfield 64, 3) := by decide +kernel
theorem dX9_truck_169 : decode cX9_truck 169 = .ok (.iconst 4, 1) := by decide +kernel
theorem dX9_truck_170 : decode cX9_truck 170 = .ok (.iload 4, 2) := by decide +kernel
theorem dX9_truck_172 : decode cX9_truck 172 = .ok (.iadd, 1) := by decide +kernel
theorem dX9_truck_173 : decode cX9_truck 173 = .ok (.iaload, 1) := by decide +kernel
theorem dX9_truck_174 : decode cX9_truck 174 = .ok (.iconst (-1), 1) := by decide +kernel
theorem dX9_truck_175 : decode cX9_truck 175 = .ok (.if_icmp .ne 7, 3) := by decide +kernel
theorem dX9_truck_178 : decode cX9_truck 178 = .ok (.iconst 0, 1) := by decide +kernel
theorem dX9_truck_179 : decode cX9_truck 179 = .ok (.goto 12, 3) := by decide +kernel
theorem dX9_truck_182 : decode cX9_truck 182 = .ok (.aload_n 0, 1) := by decide +kernel
theorem dX9_truck_183 : decode cX9_truck 183 = .ok (.getfield 64, 3) := by decide +kernel
theorem dX9_truck_186 : decode cX9_truck 186 = .ok (.iconst 4, 1) := by decide +kernel
theorem dX9_truck_187 : decode cX9_truck 187 = .ok (.iload 4, 2) := by decide +kernel
theorem dX9_truck_189 : decode cX9_truck 189 = .ok (.iadd, 1) := by decide +kernel
theorem dX9_truck_190 : decode cX9_truck 190 = .ok (.iaload, 1) := by decide +kernel
theorem dX9_truck_191 : decode cX9_truck 191 = .ok (.iadd, 1) := by decide +kernel
theorem dX9_truck_192 : decode cX9_truck 192 = .ok (.istore_n 3, 1) := by decide +kernel
theorem dX9_truck_193 : decode cX9_truck 193 = .ok (.goto 23, 3) := by decide +kernel
theorem dX9_truck_196 : decode cX9_truck 196 = .ok (.aload_n 0, 1) := by decide +kernel
theorem dX9_truck_197 : decode cX9_truck 197 = .ok (.iload 4, 2) := by decide +kernel
theorem dX9_truck_199 : decode cX9_truck 199 = .ok (.iconst 4, 1) := by decide +kernel
theorem dX9_truck_200 : decode cX9_truck 200 = .ok (.invokevirtual 182, 3) := by decide +kernel
theorem dX9_truck_203 : decode cX9_truck 203 = .ok (.istore_n 3, 1) := by decide +kernel
theorem dX9_truck_204 : decode cX9_truck 204 = .ok (.goto 12, 3) := by decide +kernel
theorem dX9_truck_207 : decode cX9_truck 207 = .ok (.iload_n 3, 1) := by decide +kernel
theorem dX9_truck_208 : decode cX9_truck 208 = .ok (.aload_n 0, 1) := by decide +kernel
theorem dX9_truck_209 : decode cX9_truck 209 = .ok (.iload 4, 2) := by decide +kernel
theorem dX9_truck_211 : decode cX9_truck 211 = .ok (.invokevirtual 192, 3) := by decide +kernel
theorem dX9_truck_214 : decode cX9_truck 214 = .ok (.iadd, 1) := by decide +kernel
theorem dX9_truck_215 : decode cX9_truck 215 = .ok (.istore_n 3, 1) := by decide +kernel
theorem dX9_truck_216 : decode cX9_truck 216 = .ok (.iinc 4 1, 3) := by decide +kernel
theorem dX9_truck_219 : decode cX9_truck 219 = .ok (.goto (-149), 3) := by decide +kernel
theorem dX9_truck_222 : decode cX9_truck 222 = .ok (.iload_n 3, 1) := by decide +kernel
theorem dX9_truck_223 : decode cX9_truck 223 = .ok (.ireturn, 1) := by decide +kernel
theorem dX9_dueOf_0 : decode cX9_dueOf 0 = .ok (.lconst 0, 1) := by decide +kernel
theorem dX9_dueOf_1 : decode cX9_dueOf 1 = .ok (.lstore_n 2, 1) := by decide +kernel
theorem dX9_dueOf_2 : decode cX9_dueOf 2 = .ok (.iconst 0, 1) := by decide +kernel
theorem dX9_dueOf_3 : decode cX9_dueOf 3 = .ok (.istore 4, 2) := by decide +kernel
theorem dX9_dueOf_5 : decode cX9_dueOf 5 = .ok (.iload 4, 2) := by decide +kernel
theorem dX9_dueOf_7 : decode cX9_dueOf 7 = .ok (.aload_n 0, 1) := by decide +kernel
theorem dX9_dueOf_8 : decode cX9_dueOf 8 = .ok (.getfield 227, 3) := by decide +kernel
theorem dX9_dueOf_11 : decode cX9_dueOf 11 = .ok (.if_icmp .ge 78, 3) := by decide +kernel
theorem dX9_dueOf_14 : decode cX9_dueOf 14 = .ok (.aload_n 0, 1) := by decide +kernel
theorem dX9_dueOf_15 : decode cX9_dueOf 15 = .ok (.getfield 107, 3) := by decide +kernel
theorem dX9_dueOf_18 : decode cX9_dueOf 18 = .ok (.iconst 3, 1) := by decide +kernel
theorem dX9_dueOf_19 : decode cX9_dueOf 19 = .ok (.iload 4, 2) := by decide +kernel
theorem dX9_dueOf_21 : decode cX9_dueOf 21 = .ok (.imul, 1) := by decide +kernel
theorem dX9_dueOf_22 : decode cX9_dueOf 22 = .ok (.iaload, 1) := by decide +kernel
theorem dX9_dueOf_23 : decode cX9_dueOf 23 = .ok (.bipush 100, 2) := by decide +kernel
theorem dX9_dueOf_25 : decode cX9_dueOf 25 = .ok (.iload_n 1, 1) := by decide +kernel
theorem dX9_dueOf_26 : decode cX9_dueOf 26 = .ok (.iadd, 1) := by decide +kernel
theorem dX9_dueOf_27 : decode cX9_dueOf 27 = .ok (.if_icmp .ne 56, 3) := by decide +kernel
theorem dX9_dueOf_30 : decode cX9_dueOf 30 = .ok (.lload_n 2, 1) := by decide +kernel
theorem dX9_dueOf_31 : decode cX9_dueOf 31 = .ok (.aload_n 0, 1) := by decide +kernel
theorem dX9_dueOf_32 : decode cX9_dueOf 32 = .ok (.getfield 64, 3) := by decide +kernel
theorem dX9_dueOf_35 : decode cX9_dueOf 35 = .ok (.bipush 20, 2) := by decide +kernel
theorem dX9_dueOf_37 : decode cX9_dueOf 37 = .ok (.iload_n 1, 1) := by decide +kernel
theorem dX9_dueOf_38 : decode cX9_dueOf 38 = .ok (.iadd, 1) := by decide +kernel
theorem dX9_dueOf_39 : decode cX9_dueOf 39 = .ok (.iaload, 1) := by decide +kernel
theorem dX9_dueOf_40 : decode cX9_dueOf 40 = .ok (.i2l, 1) := by decide +kernel
theorem dX9_dueOf_41 : decode cX9_dueOf 41 = .ok (.aload_n 0, 1) := by decide +kernel
theorem dX9_dueOf_42 : decode cX9_dueOf 42 = .ok (.getfield 64, 3) := by decide +kernel
theorem dX9_dueOf_45 : decode cX9_dueOf 45 = .ok (.aload_n 0, 1) := by decide +kernel
theorem dX9_dueOf_46 : decode cX9_dueOf 46 = .ok (.getfield 107, 3) := by decide +kernel
theorem dX9_dueOf_49 : decode cX9_dueOf 49 = .ok (.iconst 3, 1) := by decide +kernel
theorem dX9_dueOf_50 : decode cX9_dueOf 50 = .ok (.iload 4, 2) := by decide +kernel
theorem dX9_dueOf_52 : decode cX9_dueOf 52 = .ok (.imul, 1) := by decide +kernel
theorem dX9_dueOf_53 : decode cX9_dueOf 53 = .ok (.iconst 1, 1) := by decide +kernel
theorem dX9_dueOf_54 : decode cX9_dueOf 54 = .ok (.iadd, 1) := by decide +kernel
theorem dX9_dueOf_55 : decode cX9_dueOf 55 = .ok (.iaload, 1) := by decide +kernel
theorem dX9_dueOf_56 : decode cX9_dueOf 56 = .ok (.aload_n 0, 1) := by decide +kernel
theorem dX9_dueOf_57 : decode cX9_dueOf 57 = .ok (.getfield 107, 3) := by decide +kernel
theorem dX9_dueOf_60 : decode cX9_dueOf 60 = .ok (.iconst 3, 1) := by decide +kernel
theorem dX9_dueOf_61 : decode cX9_dueOf 61 = .ok (.iload 4, 2) := by decide +kernel
theorem dX9_dueOf_63 : decode cX9_dueOf 63 = .ok (.imul, 1) := by decide +kernel
theorem dX9_dueOf_64 : decode cX9_dueOf 64 = .ok (.iconst 2, 1) := by decide +kernel
theorem dX9_dueOf_65 : decode cX9_dueOf 65 = .ok (.iadd, 1) := by decide +kernel
theorem dX9_dueOf_66 : decode cX9_dueOf 66 = .ok (.iaload, 1) := by decide +kernel
theorem dX9_dueOf_67 : decode cX9_dueOf 67 = .ok (.invokestatic 128, 3) := by decide +kernel
theorem dX9_dueOf_70 : decode cX9_dueOf 70 = .ok (.i2l, 1) := by decide +kernel
theorem dX9_dueOf_71 : decode cX9_dueOf 71 = .ok (.lmul, 1) := by decide +kernel
theorem dX9_dueOf_72 : decode cX9_dueOf 72 = .ok (.aload_n 0, 1) := by decide +kernel
theorem dX9_dueOf_73 : decode cX9_dueOf 73 = .ok (.getfield 64, 3) := by decide +kernel
theorem dX9_dueOf_76 : decode cX9_dueOf 76 = .ok (.bipush 36, 2) := by decide +kernel
theorem dX9_dueOf_78 : decode cX9_dueOf 78 = .ok (.iaload, 1) := by decide +kernel
theorem dX9_dueOf_79 : decode cX9_dueOf 79 = .ok (.i2l, 1) := by decide +kernel
theorem dX9_dueOf_80 : decode cX9_dueOf 80 = .ok (.lmul, 1) := by decide +kernel
theorem dX9_dueOf_81 : decode cX9_dueOf 81 = .ok (.ladd, 1) := by decide +kernel
theorem dX9_dueOf_82 : decode cX9_dueOf 82 = .ok (.lstore_n 2, 1) := by decide +kernel
theorem dX9_dueOf_83 : decode cX9_dueOf 83 = .ok (.iinc 4 1, 3) := by decide +kernel
theorem dX9_dueOf_86 : decode cX9_dueOf 86 = .ok (.goto (-81), 3) := by decide +kernel
theorem dX9_dueOf_89 : decode cX9_dueOf 89 = .ok (.lload_n 2, 1) := by decide +kernel
theorem dX9_dueOf_90 : decode cX9_dueOf 90 = .ok (.ldc2_w 252, 3) := by decide +kernel
theorem dX9_dueOf_93 : decode cX9_dueOf 93 = .ok (.ladd, 1) := by decide +kernel
theorem dX9_dueOf_94 : decode cX9_dueOf 94 = .ok (.ldc2_w 254, 3) := by decide +kernel
theorem dX9_dueOf_97 : decode cX9_dueOf 97 = .ok (.ldiv, 1) := by decide +kernel
theorem dX9_dueOf_98 : decode cX9_dueOf 98 = .ok (.l2i, 1) := by decide +kernel
theorem dX9_dueOf_99 : decode cX9_dueOf 99 = .ok (.ireturn, 1) := by decide +kernel
theorem dX9_countsOf_0 : decode cX9_countsOf 0 = .ok (.iconst 0, 1) := by decide +kernel
theorem dX9_countsOf_1 : decode cX9_countsOf 1 = .ok (.istore_n 3, 1) := by decide +kernel
theorem dX9_countsOf_2 : decode cX9_countsOf 2 = .ok (.iconst 0, 1) := by decide +kernel
theorem dX9_countsOf_3 : decode cX9_countsOf 3 = .ok (.istore 4, 2) := by decide +kernel
theorem dX9_countsOf_5 : decode cX9_countsOf 5 = .ok (.iload 4, 2) := by decide +kernel
theorem dX9_countsOf_7 : decode cX9_countsOf 7 = .ok (.aload_n 0, 1) := by decide +kernel
theorem dX9_countsOf_8 : decode cX9_countsOf 8 = .ok (.invokevirtual 173, 3) := by decide +kernel
theorem dX9_countsOf_11 : decode cX9_countsOf 11 = .ok (.if_icmp .ge 52, 3) := by decide +kernel
theorem dX9_countsOf_14 : decode cX9_countsOf 14 = .ok (.iload_n 2, 1) := by decide +kernel
theorem dX9_countsOf_15 : decode cX9_countsOf 15 = .ok (.bipush 8, 2) := by decide +kernel
theorem dX9_countsOf_17 : decode cX9_countsOf 17 = .ok (.if_icmp .ge 46, 3) := by decide +kernel
theorem dX9_countsOf_20 : decode cX9_countsOf 20 = .ok (.aload_n 0, 1) := by decide +kernel
theorem dX9_countsOf_21 : decode cX9_countsOf 21 = .ok (.iload 4, 2) := by decide +kernel
theorem dX9_countsOf_23 : decode cX9_countsOf 23 = .ok (.iconst 5, 1) := by decide +kernel
theorem dX9_countsOf_24 : decode cX9_countsOf 24 = .ok (.invokevirtual 182, 3) := by decide +kernel
theorem dX9_countsOf_27 : decode cX9_countsOf 27 = .ok (.iload_n 1, 1) := by decide +kernel
theorem dX9_countsOf_28 : decode cX9_countsOf 28 = .ok (.invokestatic 132, 3) := by decide +kernel
theorem dX9_countsOf_31 : decode cX9_countsOf 31 = .ok (.ifCond .eq 26, 3) := by decide +kernel
theorem dX9_countsOf_34 : decode cX9_countsOf 34 = .ok (.iload_n 3, 1) := by decide +kernel
theorem dX9_countsOf_35 : decode cX9_countsOf 35 = .ok (.iload_n 2, 1) := by decide +kernel
theorem dX9_countsOf_36 : decode cX9_countsOf 36 = .ok (.iconst 4, 1) := by decide +kernel
theorem dX9_countsOf_37 : decode cX9_countsOf 37 = .ok (.if_icmp .ne 10, 3) := by decide +kernel
theorem dX9_countsOf_40 : decode cX9_countsOf 40 = .ok (.iconst 1, 1) := by decide +kernel
theorem dX9_countsOf_41 : decode cX9_countsOf 41 = .ok (.iload 4, 2) := by decide +kernel
theorem dX9_countsOf_43 : decode cX9_countsOf 43 = .ok (.ishl, 1) := by decide +kernel
theorem dX9_countsOf_44 : decode cX9_countsOf 44 = .ok (.goto 11, 3) := by decide +kernel
theorem dX9_countsOf_47 : decode cX9_countsOf 47 = .ok (.aload_n 0, 1) := by decide +kernel
theorem dX9_countsOf_48 : decode cX9_countsOf 48 = .ok (.iload 4, 2) := by decide +kernel
theorem dX9_countsOf_50 : decode cX9_countsOf 50 = .ok (.iload_n 1, 1) := by decide +kernel
theorem dX9_countsOf_51 : decode cX9_countsOf 51 = .ok (.invokevirtual 186, 3) := by decide +kernel
theorem dX9_countsOf_54 : decode cX9_countsOf 54 = .ok (.l2i, 1) := by decide +kernel
theorem dX9_countsOf_55 : decode cX9_countsOf 55 = .ok (.iadd, 1) := by decide +kernel
theorem dX9_countsOf_56 : decode cX9_countsOf 56 = .ok (.istore_n 3, 1) := by decide +kernel
theorem dX9_countsOf_57 : decode cX9_countsOf 57 = .ok (.iinc 4 1, 3) := by decide +kernel
theorem dX9_countsOf_60 : decode cX9_countsOf 60 = .ok (.goto (-55), 3) := by decide +kernel
theorem dX9_countsOf_63 : decode cX9_countsOf 63 = .ok (.iconst 0, 1) := by decide +kernel
theorem dX9_countsOf_64 : decode cX9_countsOf 64 = .ok (.istore 4, 2) := by decide +kernel
theorem dX9_countsOf_66 : decode cX9_countsOf 66 = .ok (.iload 4, 2) := by decide +kernel
theorem dX9_countsOf_68 : decode cX9_countsOf 68 = .ok (.aload_n 0, 1) := by decide +kernel
theorem dX9_countsOf_69 : decode cX9_countsOf 69 = .ok (.getfield 227, 3) := by decide +kernel
theorem dX9_countsOf_72 : decode cX9_countsOf 72 = .ok (.if_icmp .ge 34, 3) := by decide +kernel
theorem dX9_countsOf_75 : decode cX9_countsOf 75 = .ok (.iload_n 2, 1) := by decide +kernel
theorem dX9_countsOf_76 : decode cX9_countsOf 76 = .ok (.bipush 8, 2) := by decide +kernel
theorem dX9_countsOf_78 : decode cX9_countsOf 78 = .ok (.if_icmp .ne 28, 3) := by decide +kernel
theorem dX9_countsOf_81 : decode cX9_countsOf 81 = .ok (.aload_n 0, 1) := by decide +kernel
theorem dX9_countsOf_82 : decode cX9_countsOf 82 = .ok (.getfield 107, 3) := by decide +kernel
theorem dX9_countsOf_85 : decode cX9_countsOf 85 = .ok (.iconst 3, 1) := by decide +kernel
theorem dX9_countsOf_86 : decode cX9_countsOf 86 = .ok (.iload 4, 2) := by decide +kernel
theorem dX9_countsOf_88 : decode cX9_countsOf 88 = .ok (.imul, 1) := by decide +kernel
theorem dX9_countsOf_89 : decode cX9_countsOf 89 = .ok (.iaload, 1) := by decide +kernel
theorem dX9_countsOf_90 : decode cX9_countsOf 90 = .ok (.bipush 100, 2) := by decide +kernel
theorem dX9_countsOf_92 : decode cX9_countsOf 92 = .ok (.iload_n 1, 1) := by decide +kernel
theorem dX9_countsOf_93 : decode cX9_countsOf 93 = .ok (.iadd, 1) := by decide +kernel
theorem dX9_countsOf_94 : decode cX9_countsOf 94 = .ok (.if_icmp .ne 6, 3) := by decide +kernel
theorem dX9_countsOf_97 : decode cX9_countsOf 97 = .ok (.iinc 3 1, 3) := by decide +kernel
theorem dX9_countsOf_100 : decode cX9_countsOf 100 = .ok (.iinc 4 1, 3) := by decide +kernel
theorem dX9_countsOf_103 : decode cX9_countsOf 103 = .ok (.goto (-37), 3) := by decide +kernel
theorem dX9_countsOf_106 : decode cX9_countsOf 106 = .ok (.iload_n 3, 1) := by decide +kernel
theorem dX9_countsOf_107 : decode cX9_countsOf 107 = .ok (.ireturn, 1) := by decide +kernel
theorem dX9_load_0 : decode cX9_load 0 = .ok (.aload_n 0, 1) := by decide +kernel
theorem dX9_load_1 : decode cX9_load 1 = .ok (.iconst 0, 1) := by decide +kernel
theorem dX9_load_2 : decode cX9_load 2 = .ok (.putfield 1, 3) := by decide +kernel
theorem dX9_load_5 : decode cX9_load 5 = .ok (.aload_n 0, 1) := by decide +kernel
theorem dX9_load_6 : decode cX9_load 6 = .ok (.iload_n 1, 1) := by decide +kernel
theorem dX9_load_7 : decode cX9_load 7 = .ok (.invokevirtual 256, 3) := by decide +kernel
theorem dX9_load_10 : decode cX9_load 10 = .ok (.ifCond .eq 13, 3) := by decide +kernel
theorem dX9_load_13 : decode cX9_load 13 = .ok (.iload_n 2, 1) := by decide +kernel
theorem dX9_load_14 : decode cX9_load 14 = .ok (.iconst 0, 1) := by decide +kernel
theorem dX9_load_15 : decode cX9_load 15 = .ok (.bipush 9, 2) := by decide +kernel
theorem dX9_load_17 : decode cX9_load 17 = .ok (.invokestatic 113, 3) := by decide +kernel
theorem dX9_load_20 : decode cX9_load 20 = .ok (.ifCond .ne 8, 3) := by decide +kernel
theorem dX9_load_23 : decode cX9_load 23 = .ok (.aload_n 0, 1) := by decide +kernel
theorem dX9_load_24 : decode cX9_load 24 = .ok (.invokevirtual 259, 3) := by decide +kernel
theorem dX9_load_27 : decode cX9_load 27 = .ok (.ireturn, 1) := by decide +kernel
theorem dX9_load_28 : decode cX9_load 28 = .ok (.aload_n 0, 1) := by decide +kernel
theorem dX9_load_29 : decode cX9_load 29 = .ok (.invokevirtual 237, 3) := by decide +kernel
theorem dX9_load_32 : decode cX9_load 32 = .ok (.aload_n 0, 1) := by decide +kernel
theorem dX9_load_33 : decode cX9_load 33 = .ok (.invokevirtual 243, 3) := by decide +kernel
theorem dX9_load_36 : decode cX9_load 36 = .ok (.iload_n 2, 1) := by decide +kernel
theorem dX9_load_37 : decode cX9_load 37 = .ok (.tableswitch 135 0 9 #[55, 65, 75, 85, 135, 135, 111, 118, 135, 124], 55) := by decide +kernel
theorem dX9_load_92 : decode cX9_load 92 = .ok (.aload_n 0, 1) := by decide +kernel
theorem dX9_load_93 : decode cX9_load 93 = .ok (.getfield 64, 3) := by decide +kernel
theorem dX9_load_96 : decode cX9_load 96 = .ok (.bipush 20, 2) := by decide +kernel
theorem dX9_load_98 : decode cX9_load 98 = .ok (.iload_n 1, 1) := by decide +kernel
theorem dX9_load_99 : decode cX9_load 99 = .ok (.iadd, 1) := by decide +kernel
theorem dX9_load_100 : decode cX9_load 100 = .ok (.iaload, 1) := by decide +kernel
theorem dX9_load_101 : decode cX9_load 101 = .ok (.ireturn, 1) := by decide +kernel
theorem dX9_load_102 : decode cX9_load 102 = .ok (.aload_n 0, 1) := by decide +kernel
theorem dX9_load_103 : decode cX9_load 103 = .ok (.getfield 64, 3) := by decide +kernel
theorem dX9_load_106 : decode cX9_load 106 = .ok (.bipush 69, 2) := by decide +kernel
theorem dX9_load_108 : decode cX9_load 108 = .ok (.iload_n 1, 1) := by decide +kernel
theorem dX9_load_109 : decode cX9_load 109 = .ok (.iadd, 1) := by decide +kernel
theorem dX9_load_110 : decode cX9_load 110 = .ok (.iaload, 1) := by decide +kernel
theorem dX9_load_111 : decode cX9_load 111 = .ok (.ireturn, 1) := by decide +kernel
theorem dX9_load_112 : decode cX9_load 112 = .ok (.aload_n 0, 1) := by decide +kernel
theorem dX9_load_113 : decode cX9_load 113 = .ok (.getfield 64, 3) := by decide +kernel
theorem dX9_load_116 : decode cX9_load 116 = .ok (.bipush 85, 2) := by decide +kernel
theorem dX9_load_118 : decode cX9_load 118 = .ok (.iload_n 1, 1) := by decide +kernel
theorem dX9_load_119 : decode cX9_load 119 = .ok (.iadd, 1) := by decide +kernel
theorem dX9_load_120 : decode cX9_load 120 = .ok (.iaload, 1) := by decide +kernel
theorem dX9_load_121 : decode cX9_load 121 = .ok (.ireturn, 1) := by decide +kernel
theorem dX9_load_122 : decode cX9_load 122 = .ok (.aload_n 0, 1) := by decide +kernel
theorem dX9_load_123 : decode cX9_load 123 = .ok (.getfield 64, 3) := by decide +kernel
theorem dX9_load_126 : decode cX9_load 126 = .ok (.aload_n 0, 1) := by decide +kernel
theorem dX9_load_127 : decode cX9_load 127 = .ok (.getfield 64, 3) := by decide +kernel
theorem dX9_load_130 : decode cX9_load 130 = .ok (.bipush 69, 2) := by decide +kernel
theorem dX9_load_132 : decode cX9_load 132 = .ok (.iload_n 1, 1) := by decide +kernel
theorem dX9_load_133 : decode cX9_load 133 = .ok (.iadd, 1) := by decide +kernel
theorem dX9_load_134 : decode cX9_load 134 = .ok (.iaload, 1) := by decide +kernel
theorem dX9_load_135 : decode cX9_load 135 = .ok (.aload_n 0, 1) := by decide +kernel
theorem dX9_load_136 : decode cX9_load 136 = .ok (.getfield 64, 3) := by decide +kernel
theorem dX9_load_139 : decode cX9_load 139 = .ok (.bipush 85, 2) := by decide +kernel
theorem dX9_load_141 : decode cX9_load 141 = .ok (.iload_n 1, 1) := by decide +kernel
theorem dX9_load_142 : decode cX9_load 142 = .ok (.iadd, 1) := by decide +kernel
theorem dX9_load_143 : decode cX9_load 143 = .ok (.iaload, 1) := by decide +kernel
theorem dX9_load_144 : decode cX9_load 144 = .ok (.invokestatic 128, 3) := by decide +kernel
theorem dX9_load_147 : decode cX9_load 147 = .ok (.ireturn, 1) := by decide +kernel
theorem dX9_load_148 : decode cX9_load 148 = .ok (.aload_n 0, 1) := by decide +kernel
theorem dX9_load_149 : decode cX9_load 149 = .ok (.getfield 88, 3) := by decide +kernel
theorem dX9_load_152 : decode cX9_load 152 = .ok (.iload_n 1, 1) := by decide +kernel
theorem dX9_load_153 : decode cX9_load 153 = .ok (.iaload, 1) := by decide +kernel
theorem dX9_load_154 : decode cX9_load 154 = .ok (.ireturn, 1) := by decide +kernel
theorem dX9_load_155 : decode cX9_load 155 = .ok (.aload_n 0, 1) := by decide +kernel
theorem dX9_load_156 : decode cX9_load 156 = .ok (.iload_n 1, 1) := by decide +kernel
theorem dX9_load_157 : decode cX9_load 157 = .ok (.invokevirtual 262, 3) := by decide +kernel
theorem dX9_load_160 : decode cX9_load 160 = .ok (.ireturn, 1) := by decide +kernel
theorem dX9_load_161 : decode cX9_load 161 = .ok (.aload_n 0, 1) := by decide +kernel
theorem dX9_load_162 : decode cX9_load 162 = .ok (.getfield 64, 3) := by decide +kernel
theorem dX9_load_165 : decode cX9_load 165 = .ok (.sipush 853, 3) := by decide +kernel
theorem dX9_load_168 : decode cX9_load 168 = .ok (.iload_n 1, 1) := by decide +kernel
theorem dX9_load_169 : decode cX9_load 169 = .ok (.iadd, 1) := by decide +kernel
theorem dX9_load_170 : decode cX9_load 170 = .ok (.iaload, 1) := by decide +kernel
theorem dX9_load_171 : decode cX9_load 171 = .ok (.ireturn, 1) := by decide +kernel
theorem dX9_load_172 : decode cX9_load 172 = .ok (.aload_n 0, 1) := by decide +kernel
theorem dX9_load_173 : decode cX9_load 173 = .ok (.iload_n 1, 1) := by decide +kernel
theorem dX9_load_174 : decode cX9_load 174 = .ok (.iload_n 2, 1) := by decide +kernel
theorem dX9_load_175 : decode cX9_load 175 = .ok (.invokevirtual 265, 3) := by decide +kernel
theorem dX9_load_178 : decode cX9_load 178 = .ok (.ireturn, 1) := by decide +kernel
theorem dX9_trip_0 : decode cX9_trip 0 = .ok (.aload_n 0, 1) := by decide +kernel
theorem dX9_trip_1 : decode cX9_trip 1 = .ok (.iconst 0, 1) := by decide +kernel
theorem dX9_trip_2 : decode cX9_trip 2 = .ok (.putfield 1, 3) := by decide +kernel
theorem dX9_trip_5 : decode cX9_trip 5 = .ok (.aload_n 0, 1) := by decide +kernel
theorem dX9_trip_6 : decode cX9_trip 6 = .ok (.iload_n 1, 1) := by decide +kernel
theorem dX9_trip_7 : decode cX9_trip 7 = .ok (.invokevirtual 268, 3) := by decide +kernel
theorem dX9_trip_10 : decode cX9_trip 10 = .ok (.ifCond .eq 13, 3) := by decide +kernel
theorem dX9_trip_13 : decode cX9_trip 13 = .ok (.iload_n 2, 1) := by decide +kernel
theorem dX9_trip_14 : decode cX9_trip 14 = .ok (.iconst 0, 1) := by decide +kernel
theorem dX9_trip_15 : decode cX9_trip 15 = .ok (.bipush 11, 2) := by decide +kernel
theorem dX9_trip_17 : decode cX9_trip 17 = .ok (.invokestatic 113, 3) := by decide +kernel
theorem dX9_trip_20 : decode cX9_trip 20 = .ok (.ifCond .ne 8, 3) := by decide +kernel
theorem dX9_trip_23 : decode cX9_trip 23 = .ok (.aload_n 0, 1) := by decide +kernel
theorem dX9_trip_24 : decode cX9_trip 24 = .ok (.invokevirtual 259, 3) := by decide +kernel
theorem dX9_trip_27 : decode cX9_trip 27 = .ok (.ireturn, 1) := by decide +kernel
theorem dX9_trip_28 : decode cX9_trip 28 = .ok (.aload_n 0, 1) := by decide +kernel
theorem dX9_trip_29 : decode cX9_trip 29 = .ok (.invokevirtual 237, 3) := by decide +kernel
theorem dX9_trip_32 : decode cX9_trip 32 = .ok (.iload_n 2, 1) := by decide +kernel
theorem dX9_trip_33 : decode cX9_trip 33 = .ok (.tableswitch 137 0 10 #[59, 66, 75, 82, 89, 96, 103, 109, 116, 123, 130], 59) := by decide +kernel
theorem dX9_trip_92 : decode cX9_trip 92 = .ok (.aload_n 0, 1) := by decide +kernel
theorem dX9_trip_93 : decode cX9_trip 93 = .ok (.iload_n 1, 1) := by decide +kernel
theorem dX9_trip_94 : decode cX9_trip 94 = .ok (.iconst 0, 1) := by decide +kernel
theorem dX9_trip_95 : decode cX9_trip 95 = .ok (.invokevirtual 182, 3) := by decide +kernel
theorem dX9_trip_98 : decode cX9_trip 98 = .ok (.ireturn, 1) := by decide +kernel
theorem dX9_trip_99 : decode cX9_trip 99 = .ok (.aload_n 0, 1) := by decide +kernel
theorem dX9_trip_100 : decode cX9_trip 100 = .ok (.getfield 64, 3) := by decide +kernel
theorem dX9_trip_103 : decode cX9_trip 103 = .ok (.iconst 4, 1) := by decide +kernel
theorem dX9_trip_104 : decode cX9_trip 104 = .ok (.iload_n 1, 1) := by decide +kernel
theorem dX9_trip_105 : decode cX9_trip 105 = .ok (.iadd, 1) := by decide +kernel
theorem dX9_trip_106 : decode cX9_trip 106 = .ok (.iaload, 1) := by decide +kernel
theorem dX9_trip_107 : decode cX9_trip 107 = .ok (.ireturn, 1) := by decide +kernel
theorem dX9_trip_108 : decode cX9_trip 108 = .ok (.aload_n 0, 1) := by decide +kernel
theorem dX9_trip_109 : decode cX9_trip 109 = .ok (.iload_n 1, 1) := by decide +kernel
theorem dX9_trip_110 : decode cX9_trip 110 = .ok (.iconst 1, 1) := by decide +kernel
theorem dX9_trip_111 : decode cX9_trip 111 = .ok (.invokevirtual 182, 3) := by decide +kernel
theorem dX9_trip_114 : decode cX9_trip 114 = .ok (.ireturn, 1) := by decide +kernel
theorem dX9_trip_115 : decode cX9_trip 115 = .ok (.aload_n 0, 1) := by decide +kernel
theorem dX9_trip_116 : decode cX9_trip 116 = .ok (.iload_n 1, 1) := by decide +kernel
theorem dX9_trip_117 : decode cX9_trip 117 = .ok (.iconst 2, 1) := by decide +kernel
theorem dX9_trip_118 : decode cX9_trip 118 = .ok (.invokevirtual 182, 3) := by decide +kernel
theorem dX9_trip_121 : decode cX9_trip 121 = .ok (.ireturn, 1) := by decide +kernel
theorem dX9_trip_122 : decode cX9_trip 122 = .ok (.aload_n 0, 1) := by decide +kernel
theorem dX9_trip_123 : decode cX9_trip 123 = .ok (.iload_n 1, 1) := by decide +kernel
theorem dX9_trip_124 : decode cX9_trip 124 = .ok (.iconst 5, 1) := by decide +kernel
theorem dX9_trip_125 : decode cX9_trip 125 = .ok (.invokevirtual 182, 3) := by decide +kernel
theorem dX9_trip_128 : decode cX9_trip 128 = .ok (.ireturn, 1) := by decide +kernel
theorem dX9_trip_129 : decode cX9_trip 129 = .ok (.aload_n 0, 1) := by decide +kernel
theorem dX9_trip_130 : decode cX9_trip 130 = .ok (.iload_n 1, 1) := by decide +kernel
theorem dX9_trip_131 : decode cX9_trip 131 = .ok (.invokevirtual 202, 3) := by decide +kernel
theorem dX9_trip_134 : decode cX9_trip 134 = .ok (.l2i, 1) := by decide +kernel
theorem dX9_trip_135 : decode cX9_trip 135 = .ok (.ireturn, 1) := by decide +kernel
theorem dX9_trip_136 : decode cX9_trip 136 = .ok (.aload_n 0, 1) := by decide +kernel
theorem dX9_trip_137 : decode cX9_trip 137 = .ok (.iload_n 1, 1) := by decide +kernel
theorem dX9_trip_138 : decode cX9_trip 138 = .ok (.invokevirtual 192, 3) := by decide +kernel
theorem dX9_trip_141 : decode cX9_trip 141 = .ok (.ireturn, 1) := by decide +kernel
theorem dX9_trip_142 : decode cX9_trip 142 = .ok (.aload_n 0, 1) := by decide +kernel
theorem dX9_trip_143 : decode cX9_trip 143 = .ok (.getfield 79, 3) := by decide +kernel
theorem dX9_trip_146 : decode cX9_trip 146 = .ok (.iload_n 1, 1) := by decide +kernel
theorem dX9_trip_147 : decode cX9_trip 147 = .ok (.iaload, 1) := by decide +kernel
theorem dX9_trip_148 : decode cX9_trip 148 = .ok (.ireturn, 1) := by decide +kernel
theorem dX9_trip_149 : decode cX9_trip 149 = .ok (.aload_n 0, 1) := by decide +kernel
theorem dX9_trip_150 : decode cX9_trip 150 = .ok (.getfield 82, 3) := by decide +kernel
theorem dX9_trip_153 : decode cX9_trip 153 = .ok (.iload_n 1, 1) := by decide +kernel
theorem dX9_trip_154 : decode cX9_trip 154 = .ok (.iaload, 1) := by decide +kernel
theorem dX9_trip_155 : decode cX9_trip 155 = .ok (.ireturn, 1) := by decide +kernel
theorem dX9_trip_156 : decode cX9_trip 156 = .ok (.aload_n 0, 1) := by decide +kernel
theorem dX9_trip_157 : decode cX9_trip 157 = .ok (.getfield 85, 3) := by decide +kernel
theorem dX9_trip_160 : decode cX9_trip 160 = .ok (.iload_n 1, 1) := by decide +kernel
theorem dX9_trip_161 : decode cX9_trip 161 = .ok (.iaload, 1) := by decide +kernel
theorem dX9_trip_162 : decode cX9_trip 162 = .ok (.ireturn, 1) := by decide +kernel
theorem dX9_trip_163 : decode cX9_trip 163 = .ok (.aload_n 0, 1) := by decide +kernel
theorem dX9_trip_164 : decode cX9_trip 164 = .ok (.iload_n 1, 1) := by decide +kernel
theorem dX9_trip_165 : decode cX9_trip 165 = .ok (.iconst 3, 1) := by decide +kernel
theorem dX9_trip_166 : decode cX9_trip 166 = .ok (.invokevirtual 182, 3) := by decide +kernel
theorem dX9_trip_169 : decode cX9_trip 169 = .ok (.ireturn, 1) := by decide +kernel
theorem dX9_trip_170 : decode cX9_trip 170 = .ok (.aload_n 0, 1) := by decide +kernel
theorem dX9_trip_171 : decode cX9_trip 171 = .ok (.iload_n 1, 1) := by decide +kernel
theorem dX9_trip_172 : decode cX9_trip 172 = .ok (.iconst 4, 1) := by decide +kernel
theorem dX9_trip_173 : decode cX9_trip 173 = .ok (.invokevirtual 182, 3) := by decide +kernel
theorem dX9_trip_176 : decode cX9_trip 176 = .ok (.ireturn, 1) := by decide +kernel
theorem dX9_share_0 : decode cX9_share 0 = .ok (.aload_n 0, 1) := by decide +kernel
theorem dX9_share_1 : decode cX9_share 1 = .ok (.iconst 0, 1) := by decide +kernel
theorem dX9_share_2 : decode cX9_share 2 = .ok (.putfield 1, 3) := by decide +kernel
theorem dX9_share_5 : decode cX9_share 5 = .ok (.iload_n 1, 1) := by decide +kernel
theorem dX9_share_6 : decode cX9_share 6 = .ok (.iconst (-1), 1) := by decide +kernel
theorem dX9_share_7 : decode cX9_share 7 = .ok (.if_icmp .eq 11, 3) := by decide +kernel
theorem dX9_share_10 : decode cX9_share 10 = .ok (.aload_n 0, 1) := by decide +kernel
theorem dX9_share_11 : decode cX9_share 11 = .ok (.iload_n 1, 1) := by decide +kernel
theorem dX9_share_12 : decode cX9_share 12 = .ok (.invokevirtual 268, 3) := by decide +kernel
theorem dX9_share_15 : decode cX9_share 15 = .ok (.ifCond .eq 11, 3) := by decide +kernel
theorem dX9_share_18 : decode cX9_share 18 = .ok (.aload_n 0, 1) := by decide +kernel
theorem dX9_share_19 : decode cX9_share 19 = .ok (.iload_n 2, 1) := by decide +kernel
theorem dX9_share_20 : decode cX9_share 20 = .ok (.invokevirtual 256, 3) := by decide +kernel
theorem dX9_share_23 : decode cX9_share 23 = .ok (.ifCond .ne 5, 3) := by decide +kernel
theorem dX9_share_26 : decode cX9_share 26 = .ok (.iconst (-1), 1) := by decide +kernel
theorem dX9_share_27 : decode cX9_share 27 = .ok (.ireturn, 1) := by decide +kernel
theorem dX9_share_28 : decode cX9_share 28 = .ok (.aload_n 0, 1) := by decide +kernel
theorem dX9_share_29 : decode cX9_share 29 = .ok (.invokevirtual 237, 3) := by decide +kernel
theorem dX9_share_32 : decode cX9_share 32 = .ok (.aload_n 0, 1) := by decide +kernel
theorem dX9_share_33 : decode cX9_share 33 = .ok (.getfield 91, 3) := by decide +kernel
theorem dX9_share_36 : decode cX9_share 36 = .ok (.bipush 17, 2) := by decide +kernel
theorem dX9_share_38 : decode cX9_share 38 = .ok (.iload_n 1, 1) := by decide +kernel
theorem dX9_share_39 : decode cX9_share 39 = .ok (.iconst (-1), 1) := by decide +kernel
theorem dX9_share_40 : decode cX9_share 40 = .ok (.if_icmp .ne 8, 3) := by decide +kernel
theorem dX9_share_43 : decode cX9_share 43 = .ok (.bipush 16, 2) := by decide +kernel
theorem dX9_share_45 : decode cX9_share 45 = .ok (.goto 4, 3) := by decide +kernel
theorem dX9_share_48 : decode cX9_share 48 = .ok (.iload_n 1, 1) := by decide +kernel
theorem dX9_share_49 : decode cX9_share 49 = .ok (.imul, 1) := by decide +kernel
theorem dX9_share_50 : decode cX9_share 50 = .ok (.iload_n 2, 1) := by decide +kernel
theorem dX9_share_51 : decode cX9_share 51 = .ok (.iadd, 1) := by decide +kernel
theorem dX9_share_52 : decode cX9_share 52 = .ok (.iaload, 1) := by decide +kernel
theorem dX9_share_53 : decode cX9_share 53 = .ok (.ireturn, 1) := by decide +kernel
theorem dX9_gap_0 : decode cX9_gap 0 = .ok (.aload_n 0, 1) := by decide +kernel
theorem dX9_gap_1 : decode cX9_gap 1 = .ok (.iconst 0, 1) := by decide +kernel
theorem dX9_gap_2 : decode cX9_gap 2 = .ok (.putfield 1, 3) := by decide +kernel
theorem dX9_gap_5 : decode cX9_gap 5 = .ok (.aload_n 0, 1) := by decide +kernel
theorem dX9_gap_6 : decode cX9_gap 6 = .ok (.invokevirtual 243, 3) := by decide +kernel
theorem dX9_gap_9 : decode cX9_gap 9 = .ok (.iload_n 1, 1) := by decide +kernel
theorem dX9_gap_10 : decode cX9_gap 10 = .ok (.iconst 0, 1) := by decide +kernel
theorem dX9_gap_11 : decode cX9_gap 11 = .ok (.aload_n 0, 1) := by decide +kernel
theorem dX9_gap_12 : decode cX9_gap 12 = .ok (.getfield 227, 3) := by decide +kernel
theorem dX9_gap_15 : decode cX9_gap 15 = .ok (.iconst 1, 1) := by decide +kernel
theorem dX9_gap_16 : decode cX9_gap 16 = .ok (.isub, 1) := by decide +kernel
theorem dX9_gap_17 : decode cX9_gap 17 = .ok (.invokestatic 113, 3) := by decide +kernel
theorem dX9_gap_20 : decode cX9_gap 20 = .ok (.ifCond .eq 25, 3) := by decide +kernel
theorem dX9_gap_23 : decode cX9_gap 23 = .ok (.iload_n 2, 1) := by decide +kernel
theorem dX9_gap_24 : decode cX9_gap 24 = .ok (.iconst 0, 1) := by decide +kernel
theorem dX9_gap_25 : decode cX9_gap 25 = .ok (.iconst 2, 1) := by decide +kernel
theorem dX9_gap_26 : decode cX9_gap 26 = .ok (.invokestatic 113, 3) := by decide +kernel
theorem dX9_gap_29 : decode cX9_gap 29 = .ok (.ifCond .eq 16, 3) := by decide +kernel
theorem dX9_gap_32 : decode cX9_gap 32 = .ok (.aload_n 0, 1) := by decide +kernel
theorem dX9_gap_33 : decode cX9_gap 33 = .ok (.getfield 107, 3) := by decide +kernel
theorem dX9_gap_36 : decode cX9_gap 36 = .ok (.iconst 3, 1) := by decide +kernel
theorem dX9_gap_37 : decode cX9_gap 37 = .ok (.iload_n 1, 1) := by decide +kernel
theorem dX9_gap_38 : decode cX9_gap 38 = .ok (.imul, 1) := by decide +kernel
theorem dX9_gap_39 : decode cX9_gap 39 = .ok (.iload_n 2, 1) := by decide +kernel
theorem dX9_gap_40 : decode cX9_gap 40 = .ok (.iadd, 1) := by decide +kernel
theorem dX9_gap_41 : decode cX9_gap 41 = .ok (.iaload, 1) := by decide +kernel
theorem dX9_gap_42 : decode cX9_gap 42 = .ok (.goto 4, 3) := by decide +kernel
theorem dX9_gap_45 : decode cX9_gap 45 = .ok (.iconst (-1), 1) := by decide +kernel
theorem dX9_gap_46 : decode cX9_gap 46 = .ok (.ireturn, 1) := by decide +kernel
theorem dX9_way_0 : decode cX9_way 0 = .ok (.aload_n 0, 1) := by decide +kernel
theorem dX9_way_1 : decode cX9_way 1 = .ok (.iconst 0, 1) := by decide +kernel
theorem dX9_way_2 : decode cX9_way 2 = .ok (.putfield 1, 3) := by decide +kernel
theorem dX9_way_5 : decode cX9_way 5 = .ok (.aload_n 0, 1) := by decide +kernel
theorem dX9_way_6 : decode cX9_way 6 = .ok (.iload_n 1, 1) := by decide +kernel
theorem dX9_way_7 : decode cX9_way 7 = .ok (.invokevirtual 246, 3) := by decide +kernel
theorem dX9_way_10 : decode cX9_way 10 = .ok (.ifCond .eq 34, 3) := by decide +kernel
theorem dX9_way_13 : decode cX9_way 13 = .ok (.aload_n 0, 1) := by decide +kernel
theorem dX9_way_14 : decode cX9_way 14 = .ok (.iload_n 2, 1) := by decide +kernel
theorem dX9_way_15 : decode cX9_way 15 = .ok (.invokevirtual 246, 3) := by decide +kernel
theorem dX9_way_18 : decode cX9_way 18 = .ok (.ifCond .eq 26, 3) := by decide +kernel
theorem dX9_way_21 : decode cX9_way 21 = .ok (.iload_n 1, 1) := by decide +kernel
theorem dX9_way_22 : decode cX9_way 22 = .ok (.iload_n 2, 1) := by decide +kernel
theorem dX9_way_23 : decode cX9_way 23 = .ok (.if_icmp .eq 21, 3) := by decide +kernel
theorem dX9_way_26 : decode cX9_way 26 = .ok (.aload_n 0, 1) := by decide +kernel
theorem dX9_way_27 : decode cX9_way 27 = .ok (.getfield 64, 3) := by decide +kernel
theorem dX9_way_30 : decode cX9_way 30 = .ok (.sipush 709, 3) := by decide +kernel
theorem dX9_way_33 : decode cX9_way 33 = .ok (.bipush 12, 2) := by decide +kernel
theorem dX9_way_35 : decode cX9_way 35 = .ok (.iload_n 1, 1) := by decide +kernel
theorem dX9_way_36 : decode cX9_way 36 = .ok (.imul, 1) := by decide +kernel
theorem dX9_way_37 : decode cX9_way 37 = .ok (.iadd, 1) := by decide +kernel
theorem dX9_way_38 : decode cX9_way 38 = .ok (.iload_n 2, 1) := by decide +kernel
theorem dX9_way_39 : decode cX9_way 39 = .ok (.iadd, 1) := by decide +kernel
theorem dX9_way_40 : decode cX9_way 40 = .ok (.iaload, 1) := by decide +kernel
theorem dX9_way_41 : decode cX9_way 41 = .ok (.goto 4, 3) := by decide +kernel
theorem dX9_way_44 : decode cX9_way 44 = .ok (.iconst (-1), 1) := by decide +kernel
theorem dX9_way_45 : decode cX9_way 45 = .ok (.ireturn, 1) := by decide +kernel
theorem dX9_busiest_0 : decode cX9_busiest 0 = .ok (.aload_n 0, 1) := by decide +kernel
theorem dX9_busiest_1 : decode cX9_busiest 1 = .ok (.iconst 0, 1) := by decide +kernel
theorem dX9_busiest_2 : decode cX9_busiest 2 = .ok (.putfield 1, 3) := by decide +kernel
theorem dX9_busiest_5 : decode cX9_busiest 5 = .ok (.iconst (-1), 1) := by decide +kernel
theorem dX9_busiest_6 : decode cX9_busiest 6 = .ok (.istore_n 1, 1) := by decide +kernel
theorem dX9_busiest_7 : decode cX9_busiest 7 = .ok (.iconst 0, 1) := by decide +kernel
theorem dX9_busiest_8 : decode cX9_busiest 8 = .ok (.istore_n 2, 1) := by decide +kernel
theorem dX9_busiest_9 : decode cX9_busiest 9 = .ok (.iload_n 2, 1) := by decide +kernel
theorem dX9_busiest_10 : decode cX9_busiest 10 = .ok (.sipush 144, 3) := by decide +kernel
theorem dX9_busiest_13 : decode cX9_busiest 13 = .ok (.if_icmp .ge 52, 3) := by decide +kernel
theorem dX9_busiest_16 : decode cX9_busiest 16 = .ok (.aload_n 0, 1) := by decide +kernel
theorem dX9_busiest_17 : decode cX9_busiest 17 = .ok (.getfield 64, 3) := by decide +kernel
theorem dX9_busiest_20 : decode cX9_busiest 20 = .ok (.sipush 709, 3) := by decide +kernel
theorem dX9_busiest_23 : decode cX9_busiest 23 = .ok (.iload_n 2, 1) := by decide +kernel
theorem dX9_busiest_24 : decode cX9_busiest 24 = .ok (.iadd, 1) := by decide +kernel
theorem dX9_busiest_25 : decode cX9_busiest 25 = .ok (.iaload, 1) := by decide +kernel
theorem dX9_busiest_26 : decode cX9_busiest 26 = .ok (.ifCond .le 33, 3) := by decide +kernel
theorem dX9_busiest_29 : decode cX9_busiest 29 = .ok (.iload_n 1, 1) := by decide +kernel
theorem dX9_busiest_30 : decode cX9_busiest 30 = .ok (.iconst (-1), 1) := by decide +kernel
theorem dX9_busiest_31 : decode cX9_busiest 31 = .ok (.if_icmp .eq 26, 3) := by decide +kernel
theorem dX9_busiest_34 : decode cX9_busiest 34 = .ok (.aload_n 0, 1) := by decide +kernel
theorem dX9_busiest_35 : decode cX9_busiest 35 = .ok (.getfield 64, 3) := by decide +kernel
theorem dX9_busiest_38 : decode cX9_busiest 38 = .ok (.sipush 709, 3) := by decide +kernel
theorem dX9_busiest_41 : decode cX9_busiest 41 = .ok (.iload_n 2, 1) := by decide +kernel
theorem dX9_busiest_42 : decode cX9_busiest 42 = .ok (.iadd, 1) := by decide +kernel
theorem dX9_busiest_43 : decode cX9_busiest 43 = .ok (.iaload, 1) := by decide +kernel
theorem dX9_busiest_44 : decode cX9_busiest 44 = .ok (.aload_n 0, 1) := by decide +kernel
theorem dX9_busiest_45 : decode cX9_busiest 45 = .ok (.getfield 64, 3) := by decide +kernel
theorem dX9_busiest_48 : decode cX9_busiest 48 = .ok (.sipush 709, 3) := by decide +kernel
theorem dX9_busiest_51 : decode cX9_busiest 51 = .ok (.iload_n 1, 1) := by decide +kernel
theorem dX9_busiest_52 : decode cX9_busiest 52 = .ok (.iadd, 1) := by decide +kernel
theorem dX9_busiest_53 : decode cX9_busiest 53 = .ok (.iaload, 1) := by decide +kernel
theorem dX9_busiest_54 : decode cX9_busiest 54 = .ok (.if_icmp .le 5, 3) := by decide +kernel
theorem dX9_busiest_57 : decode cX9_busiest 57 = .ok (.iload_n 2, 1) := by decide +kernel
theorem dX9_busiest_58 : decode cX9_busiest 58 = .ok (.istore_n 1, 1) := by decide +kernel
theorem dX9_busiest_59 : decode cX9_busiest 59 = .ok (.iinc 2 1, 3) := by decide +kernel
theorem dX9_busiest_62 : decode cX9_busiest 62 = .ok (.goto (-53), 3) := by decide +kernel
theorem dX9_busiest_65 : decode cX9_busiest 65 = .ok (.iload_n 1, 1) := by decide +kernel
theorem dX9_busiest_66 : decode cX9_busiest 66 = .ok (.iconst (-1), 1) := by decide +kernel
theorem dX9_busiest_67 : decode cX9_busiest 67 = .ok (.if_icmp .ne 7, 3) := by decide +kernel
theorem dX9_busiest_70 : decode cX9_busiest 70 = .ok (.iconst (-1), 1) := by decide +kernel
theorem dX9_busiest_71 : decode cX9_busiest 71 = .ok (.goto 15, 3) := by decide +kernel
theorem dX9_busiest_74 : decode cX9_busiest 74 = .ok (.bipush 100, 2) := by decide +kernel
theorem dX9_busiest_76 : decode cX9_busiest 76 = .ok (.iload_n 1, 1) := by decide +kernel
theorem dX9_busiest_77 : decode cX9_busiest 77 = .ok (.bipush 12, 2) := by decide +kernel
theorem dX9_busiest_79 : decode cX9_busiest 79 = .ok (.idiv, 1) := by decide +kernel
theorem dX9_busiest_80 : decode cX9_busiest 80 = .ok (.imul, 1) := by decide +kernel
theorem dX9_busiest_81 : decode cX9_busiest 81 = .ok (.iload_n 1, 1) := by decide +kernel
theorem dX9_busiest_82 : decode cX9_busiest 82 = .ok (.bipush 12, 2) := by decide +kernel
theorem dX9_busiest_84 : decode cX9_busiest 84 = .ok (.irem, 1) := by decide +kernel
theorem dX9_busiest_85 : decode cX9_busiest 85 = .ok (.iadd, 1) := by decide +kernel
theorem dX9_busiest_86 : decode cX9_busiest 86 = .ok (.ireturn, 1) := by decide +kernel
theorem dX9_hub_0 : decode cX9_hub 0 = .ok (.aload_n 0, 1) := by decide +kernel
theorem dX9_hub_1 : decode cX9_hub 1 = .ok (.iconst 0, 1) := by decide +kernel
theorem dX9_hub_2 : decode cX9_hub 2 = .ok (.putfield 1, 3) := by decide +kernel
theorem dX9_hub_5 : decode cX9_hub 5 = .ok (.aload_n 0, 1) := by decide +kernel
theorem dX9_hub_6 : decode cX9_hub 6 = .ok (.iload_n 1, 1) := by decide +kernel
theorem dX9_hub_7 : decode cX9_hub 7 = .ok (.invokevirtual 246, 3) := by decide +kernel
theorem dX9_hub_10 : decode cX9_hub 10 = .ok (.ifCond .eq 12, 3) := by decide +kernel
theorem dX9_hub_13 : decode cX9_hub 13 = .ok (.aload_n 0, 1) := by decide +kernel
theorem dX9_hub_14 : decode cX9_hub 14 = .ok (.iload_n 1, 1) := by decide +kernel
theorem dX9_hub_15 : decode cX9_hub 15 = .ok (.iconst 1, 1) := by decide +kernel
theorem dX9_hub_16 : decode cX9_hub 16 = .ok (.invokevirtual 233, 3) := by decide +kernel
theorem dX9_hub_19 : decode cX9_hub 19 = .ok (.goto 4, 3) := by decide +kernel
theorem dX9_hub_22 : decode cX9_hub 22 = .ok (.iconst (-1), 1) := by decide +kernel
theorem dX9_hub_23 : decode cX9_hub 23 = .ok (.ireturn, 1) := by decide +kernel
theorem dX9_split_0 : decode cX9_split 0 = .ok (.aload_n 0, 1) := by decide +kernel
theorem dX9_split_1 : decode cX9_split 1 = .ok (.iconst 0, 1) := by decide +kernel
theorem dX9_split_2 : decode cX9_split 2 = .ok (.putfield 1, 3) := by decide +kernel
theorem dX9_split_5 : decode cX9_split 5 = .ok (.aload_n 0, 1) := by decide +kernel
theorem dX9_split_6 : decode cX9_split 6 = .ok (.iload_n 1, 1) := by decide +kernel
theorem dX9_split_7 : decode cX9_split 7 = .ok (.invokevirtual 256, 3) := by decide +kernel
theorem dX9_split_10 : decode cX9_split 10 = .ok (.ifCond .eq 40, 3) := by decide +kernel
theorem dX9_split_13 : decode cX9_split 13 = .ok (.iload_n 3, 1) := by decide +kernel
theorem dX9_split_14 : decode cX9_split 14 = .ok (.iconst 0, 1) := by decide +kernel
theorem dX9_split_15 : decode cX9_split 15 = .ok (.iconst 1, 1) := by decide +kernel
theorem dX9_split_16 : decode cX9_split 16 = .ok (.invokestatic 113, 3) := by decide +kernel
theorem dX9_split_19 : decode cX9_split 19 = .ok (.ifCond .eq 31, 3) := by decide +kernel
theorem dX9_split_22 : decode cX9_split 22 = .ok (.iload_n 2, 1) := by decide +kernel
theorem dX9_split_23 : decode cX9_split 23 = .ok (.iconst 1, 1) := by decide +kernel
theorem dX9_split_24 : decode cX9_split 24 = .ok (.aload_n 0, 1) := by decide +kernel
theorem dX9_split_25 : decode cX9_split 25 = .ok (.getfield 64, 3) := by decide +kernel
theorem dX9_split_28 : decode cX9_split 28 = .ok (.bipush 20, 2) := by decide +kernel
theorem dX9_split_30 : decode cX9_split 30 = .ok (.iload_n 1, 1) := by decide +kernel
theorem dX9_split_31 : decode cX9_split 31 = .ok (.iadd, 1) := by decide +kernel
theorem dX9_split_32 : decode cX9_split 32 = .ok (.iaload, 1) := by decide +kernel
theorem dX9_split_33 : decode cX9_split 33 = .ok (.iconst 1, 1) := by decide +kernel
theorem dX9_split_34 : decode cX9_split 34 = .ok (.isub, 1) := by decide +kernel
theorem dX9_split_35 : decode cX9_split 35 = .ok (.invokestatic 113, 3) := by decide +kernel
theorem dX9_split_38 : decode cX9_split 38 = .ok (.ifCond .eq 12, 3) := by decide +kernel
theorem dX9_split_41 : decode cX9_split 41 = .ok (.aload_n 0, 1) := by decide +kernel
theorem dX9_split_42 : decode cX9_split 42 = .ok (.invokevirtual 170, 3) := by decide +kernel
theorem dX9_split_45 : decode cX9_split 45 = .ok (.bipush 16, 2) := by decide +kernel
theorem dX9_split_47 : decode cX9_split 47 = .ok (.if_icmp .ne 5, 3) := by decide +kernel
theorem dX9_split_50 : decode cX9_split 50 = .ok (.iconst (-1), 1) := by decide +kernel
theorem dX9_split_51 : decode cX9_split 51 = .ok (.ireturn, 1) := by decide +kernel
theorem dX9_split_52 : decode cX9_split 52 = .ok (.aload_n 0, 1) := by decide +kernel
theorem dX9_split_53 : decode cX9_split 53 = .ok (.invokevirtual 221, 3) := by decide +kernel
theorem dX9_split_56 : decode cX9_split 56 = .ok (.aload_n 0, 1) := by decide +kernel
theorem dX9_split_57 : decode cX9_split 57 = .ok (.getfield 76, 3) := by decide +kernel
theorem dX9_split_60 : decode cX9_split 60 = .ok (.aload_n 0, 1) := by decide +kernel
theorem dX9_split_61 : decode cX9_split 61 = .ok (.getfield 176, 3) := by decide +kernel
theorem dX9_split_64 : decode cX9_split 64 = .ok (.iload_n 1, 1) := by decide +kernel
theorem dX9_split_65 : decode cX9_split 65 = .ok (.iastore, 1) := by decide +kernel
theorem dX9_split_66 : decode cX9_split 66 = .ok (.aload_n 0, 1) := by decide +kernel
theorem dX9_split_67 : decode cX9_split 67 = .ok (.getfield 73, 3) := by decide +kernel
theorem dX9_split_70 : decode cX9_split 70 = .ok (.aload_n 0, 1) := by decide +kernel
theorem dX9_split_71 : decode cX9_split 71 = .ok (.getfield 176, 3) := by decide +kernel
theorem dX9_split_74 : decode cX9_split 74 = .ok (.aload_n 0, 1) := by decide +kernel
theorem dX9_split_75 : decode cX9_split 75 = .ok (.getfield 73, 3) := by decide +kernel
theorem dX9_split_78 : decode cX9_split 78 = .ok (.iload_n 1, 1) := by decide +kernel
theorem dX9_split_79 : decode cX9_split 79 = .ok (.iaload, 1) := by decide +kernel
theorem dX9_split_80 : decode cX9_split 80 = .ok (.iload_n 2, 1) := by decide +kernel
theorem dX9_split_81 : decode cX9_split 81 = .ok (.isub, 1) := by decide +kernel
theorem dX9_split_82 : decode cX9_split 82 = .ok (.iastore, 1) := by decide +kernel
theorem dX9_split_83 : decode cX9_split 83 = .ok (.aload_n 0, 1) := by decide +kernel
theorem dX9_split_84 : decode cX9_split 84 = .ok (.getfield 73, 3) := by decide +kernel
theorem dX9_split_87 : decode cX9_split 87 = .ok (.iload_n 1, 1) := by decide +kernel
theorem dX9_split_88 : decode cX9_split 88 = .ok (.iload_n 2, 1) := by decide +kernel
theorem dX9_split_89 : decode cX9_split 89 = .ok (.iastore, 1) := by decide +kernel
theorem dX9_split_90 : decode cX9_split 90 = .ok (.aload_n 0, 1) := by decide +kernel
theorem dX9_split_91 : decode cX9_split 91 = .ok (.dup, 1) := by decide +kernel
theorem dX9_split_92 : decode cX9_split 92 = .ok (.getfield 176, 3) := by decide +kernel
theorem dX9_split_95 : decode cX9_split 95 = .ok (.iconst 1, 1) := by decide +kernel
theorem dX9_split_96 : decode cX9_split 96 = .ok (.iadd, 1) := by decide +kernel
theorem dX9_split_97 : decode cX9_split 97 = .ok (.putfield 176, 3) := by decide +kernel
theorem dX9_split_100 : decode cX9_split 100 = .ok (.aload_n 0, 1) := by decide +kernel
theorem dX9_split_101 : decode cX9_split 101 = .ok (.invokevirtual 224, 3) := by decide +kernel
theorem dX9_split_104 : decode cX9_split 104 = .ok (.iload_n 3, 1) := by decide +kernel
theorem dX9_split_105 : decode cX9_split 105 = .ok (.iconst 1, 1) := by decide +kernel
theorem dX9_split_106 : decode cX9_split 106 = .ok (.if_icmp .ne 12, 3) := by decide +kernel
theorem dX9_split_109 : decode cX9_split 109 = .ok (.aload_n 0, 1) := by decide +kernel
theorem dX9_split_110 : decode cX9_split 110 = .ok (.getfield 88, 3) := by decide +kernel
theorem dX9_split_113 : decode cX9_split 113 = .ok (.iload_n 1, 1) := by decide +kernel
theorem dX9_split_114 : decode cX9_split 114 = .ok (.iaload, 1) := by decide +kernel
theorem dX9_split_115 : decode cX9_split 115 = .ok (.goto 21, 3) := by decide +kernel
theorem dX9_split_118 : decode cX9_split 118 = .ok (.aload_n 0, 1) := by decide +kernel
theorem dX9_split_119 : decode cX9_split 119 = .ok (.getfield 88, 3) := by decide +kernel
theorem dX9_split_122 : decode cX9_split 122 = .ok (.iload_n 1, 1) := by decide +kernel
theorem dX9_split_123 : decode cX9_split 123 = .ok (.iaload, 1) := by decide +kernel
theorem dX9_split_124 : decode cX9_split 124 = .ok (.aload_n 0, 1) := by decide +kernel
theorem dX9_split_125 : decode cX9_split 125 = .ok (.getfield 88, 3) := by decide +kernel
theorem dX9_split_128 : decode cX9_split 128 = .ok (.aload_n 0, 1) := by decide +kernel
theorem dX9_split_129 : decode cX9_split 129 = .ok (.getfield 176, 3) := by decide +kernel
theorem dX9_split_132 : decode cX9_split 132 = .ok (.iconst 1, 1) := by decide +kernel
theorem dX9_split_133 : decode cX9_split 133 = .ok (.isub, 1) := by decide +kernel
theorem dX9_split_134 : decode cX9_split 134 = .ok (.iaload, 1) := by decide +kernel
theorem dX9_split_135 : decode cX9_split 135 = .ok (.iadd, 1) := by decide +kernel
theorem dX9_split_136 : decode cX9_split 136 = .ok (.ireturn, 1) := by decide +kernel
theorem dX9_without_0 : decode cX9_without 0 = .ok (.aload_n 0, 1) := by decide +kernel
theorem dX9_without_1 : decode cX9_without 1 = .ok (.iconst 0, 1) := by decide +kernel
theorem dX9_without_2 : decode cX9_without 2 = .ok (.putfield 1, 3) := by decide +kernel
theorem dX9_without_5 : decode cX9_without 5 = .ok (.aload_n 0, 1) := by decide +kernel
theorem dX9_without_6 : decode cX9_without 6 = .ok (.iload_n 1, 1) := by decide +kernel
theorem dX9_without_7 : decode cX9_without 7 = .ok (.invokevirtual 256, 3) := by decide +kernel
theorem dX9_without_10 : decode cX9_without 10 = .ok (.ifCond .eq 16, 3) := by decide +kernel
theorem dX9_without_13 : decode cX9_without 13 = .ok (.aload_n 0, 1) := by decide +kernel
theorem dX9_without_14 : decode cX9_without 14 = .ok (.iload_n 2, 1) := by decide +kernel
theorem dX9_without_15 : decode cX9_without 15 = .ok (.invokevirtual 256, 3) := by decide +kernel
theorem dX9_without_18 : decode cX9_without 18 = .ok (.ifCond .eq 8, 3) := by decide +kernel
theorem dX9_without_21 : decode cX9_without 21 = .ok (.iload_n 1, 1) := by decide +kernel
theorem dX9_without_22 : decode cX9_without 22 = .ok (.iload_n 2, 1) := by decide +kernel
theorem dX9_without_23 : decode cX9_without 23 = .ok (.if_icmp .ne 5, 3) := by decide +kernel
theorem dX9_without_26 : decode cX9_without 26 = .ok (.iconst (-1), 1) := by decide +kernel
theorem dX9_without_27 : decode cX9_without 27 = .ok (.ireturn, 1) := by decide +kernel
theorem dX9_without_28 : decode cX9_without 28 = .ok (.aload_n 0, 1) := by decide +kernel
theorem dX9_without_29 : decode cX9_without 29 = .ok (.invokevirtual 221, 3) := by decide +kernel
theorem dX9_without_32 : decode cX9_without 32 = .ok (.aload_n 0, 1) := by decide +kernel
theorem dX9_without_33 : decode cX9_without 33 = .ok (.getfield 73, 3) := by decide +kernel
theorem dX9_without_36 : decode cX9_without 36 = .ok (.iload_n 1, 1) := by decide +kernel
theorem dX9_without_37 : decode cX9_without 37 = .ok (.iconst 0, 1) := by decide +kernel
theorem dX9_without_38 : decode cX9_without 38 = .ok (.iastore, 1) := by decide +kernel
theorem dX9_without_39 : decode cX9_without 39 = .ok (.aload_n 0, 1) := by decide +kernel
theorem dX9_without_40 : decode cX9_without 40 = .ok (.iload_n 1, 1) := by decide +kernel
theorem dX9_without_41 : decode cX9_without 41 = .ok (.putfield 179, 3) := by decide +kernel
theorem dX9_without_44 : decode cX9_without 44 = .ok (.aload_n 0, 1) := by decide +kernel
theorem dX9_without_45 : decode cX9_without 45 = .ok (.invokevirtual 224, 3) := by decide +kernel
theorem dX9_without_48 : decode cX9_without 48 = .ok (.aload_n 0, 1) := by decide +kernel
theorem dX9_without_49 : decode cX9_without 49 = .ok (.getfield 88, 3) := by decide +kernel
theorem dX9_without_52 : decode cX9_without 52 = .ok (.iload_n 2, 1) := by decide +kernel
theorem dX9_without_53 : decode cX9_without 53 = .ok (.iaload, 1) := by decide +kernel
theorem dX9_without_54 : decode cX9_without 54 = .ok (.ireturn, 1) := by decide +kernel
theorem dX9_dearest_0 : decode cX9_dearest 0 = .ok (.aload_n 0, 1) := by decide +kernel
theorem dX9_dearest_1 : decode cX9_dearest 1 = .ok (.iconst 0, 1) := by decide +kernel
theorem dX9_dearest_2 : decode cX9_dearest 2 = .ok (.putfield 1, 3) := by decide +kernel
theorem dX9_dearest_5 : decode cX9_dearest 5 = .ok (.aload_n 0, 1) := by decide +kernel
theorem dX9_dearest_6 : decode cX9_dearest 6 = .ok (.invokevirtual 237, 3) := by decide +kernel
theorem dX9_dearest_9 : decode cX9_dearest 9 = .ok (.iconst (-1), 1) := by decide +kernel
theorem dX9_dearest_10 : decode cX9_dearest 10 = .ok (.istore_n 1, 1) := by decide +kernel
theorem dX9_dearest_11 : decode cX9_dearest 11 = .ok (.iconst 0, 1) := by decide +kernel
theorem dX9_dearest_12 : decode cX9_dearest 12 = .ok (.istore_n 2, 1) := by decide +kernel
theorem dX9_dearest_13 : decode cX9_dearest 13 = .ok (.iload_n 2, 1) := by decide +kernel
theorem dX9_dearest_14 : decode cX9_dearest 14 = .ok (.aload_n 0, 1) := by decide +kernel
theorem dX9_dearest_15 : decode cX9_dearest 15 = .ok (.invokevirtual 173, 3) := by decide +kernel
theorem dX9_dearest_18 : decode cX9_dearest 18 = .ok (.if_icmp .ge 54, 3) := by decide +kernel
theorem dX9_dearest_21 : decode cX9_dearest 21 = .ok (.aload_n 0, 1) := by decide +kernel
theorem dX9_dearest_22 : decode cX9_dearest 22 = .ok (.iload_n 2, 1) := by decide +kernel
theorem dX9_dearest_23 : decode cX9_dearest 23 = .ok (.invokevirtual 206, 3) := by decide +kernel
theorem dX9_dearest_26 : decode cX9_dearest 26 = .ok (.ifCond .ne 40, 3) := by decide +kernel
theorem dX9_dearest_29 : decode cX9_dearest 29 = .ok (.iload_n 1, 1) := by decide +kernel
theorem dX9_dearest_30 : decode cX9_dearest 30 = .ok (.iconst (-1), 1) := by decide +kernel
theorem dX9_dearest_31 : decode cX9_dearest 31 = .ok (.if_icmp .eq 33, 3) := by decide +kernel
theorem dX9_dearest_34 : decode cX9_dearest 34 = .ok (.aload_n 0, 1) := by decide +kernel
theorem dX9_dearest_35 : decode cX9_dearest 35 = .ok (.getfield 82, 3) := by decide +kernel
theorem dX9_dearest_38 : decode cX9_dearest 38 = .ok (.iload_n 2, 1) := by decide +kernel
theorem dX9_dearest_39 : decode cX9_dearest 39 = .ok (.iaload, 1) := by decide +kernel
theorem dX9_dearest_40 : decode cX9_dearest 40 = .ok (.i2l, 1) := by decide +kernel
theorem dX9_dearest_41 : decode cX9_dearest 41 = .ok (.aload_n 0, 1) := by decide +kernel
theorem dX9_dearest_42 : decode cX9_dearest 42 = .ok (.iload_n 1, 1) := by decide +kernel
theorem dX9_dearest_43 : decode cX9_dearest 43 = .ok (.invokevirtual 202, 3) := by decide +kernel
theorem dX9_dearest_46 : decode cX9_dearest 46 = .ok (.lmul, 1) := by decide +kernel
theorem dX9_dearest_47 : decode cX9_dearest 47 = .ok (.aload_n 0, 1) := by decide +kernel
theorem dX9_dearest_48 : decode cX9_dearest 48 = .ok (.getfield 82, 3) := by decide +kernel
theorem dX9_dearest_51 : decode cX9_dearest 51 = .ok (.iload_n 1, 1) := by decide +kernel
theorem dX9_dearest_52 : decode cX9_dearest 52 = .ok (.iaload, 1) := by decide +kernel
theorem dX9_dearest_53 : decode cX9_dearest 53 = .ok (.i2l, 1) := by decide +kernel
theorem dX9_dearest_54 : decode cX9_dearest 54 = .ok (.aload_n 0, 1) := by decide +kernel
theorem dX9_dearest_55 : decode cX9_dearest 55 = .ok (.iload_n 2, 1) := by decide +kernel
theorem dX9_dearest_56 : decode cX9_dearest 56 = .ok (.invokevirtual 202, 3) := by decide +kernel
theorem dX9_dearest_59 : decode cX9_dearest 59 = .ok (.lmul, 1) := by decide +kernel
theorem dX9_dearest_60 : decode cX9_dearest 60 = .ok (.lcmp, 1) := by decide +kernel
theorem dX9_dearest_61 : decode cX9_dearest 61 = .ok (.ifCond .le 5, 3) := by decide +kernel
theorem dX9_dearest_64 : decode cX9_dearest 64 = .ok (.iload_n 2, 1) := by decide +kernel
theorem dX9_dearest_65 : decode cX9_dearest 65 = .ok (.istore_n 1, 1) := by decide +kernel
theorem dX9_dearest_66 : decode cX9_dearest 66 = .ok (.iinc 2 1, 3) := by decide +kernel
theorem dX9_dearest_69 : decode cX9_dearest 69 = .ok (.goto (-56), 3) := by decide +kernel
theorem dX9_dearest_72 : decode cX9_dearest 72 = .ok (.iload_n 1, 1) := by decide +kernel
theorem dX9_dearest_73 : decode cX9_dearest 73 = .ok (.ireturn, 1) := by decide +kernel
theorem dX9_snap_0 : decode cX9_snap 0 = .ok (.aload_n 0, 1) := by decide +kernel
theorem dX9_snap_1 : decode cX9_snap 1 = .ok (.getfield 167, 3) := by decide +kernel
theorem dX9_snap_4 : decode cX9_snap 4 = .ok (.bipush 12, 2) := by decide +kernel
theorem dX9_snap_6 : decode cX9_snap 6 = .ok (.if_icmp .ne 43, 3) := by decide +kernel
theorem dX9_snap_9 : decode cX9_snap 9 = .ok (.iconst 0, 1) := by decide +kernel
theorem dX9_snap_10 : decode cX9_snap 10 = .ok (.istore_n 1, 1) := by decide +kernel
theorem dX9_snap_11 : decode cX9_snap 11 = .ok (.iload_n 1, 1) := by decide +kernel
theorem dX9_snap_12 : decode cX9_snap 12 = .ok (.sipush 396, 3) := by decide +kernel
theorem dX9_snap_15 : decode cX9_snap 15 = .ok (.if_icmp .ge 24, 3) := by decide +kernel
theorem dX9_snap_18 : decode cX9_snap 18 = .ok (.aload_n 0, 1) := by decide +kernel
theorem dX9_snap_19 : decode cX9_snap 19 = .ok (.getfield 70, 3) := by decide +kernel
theorem dX9_snap_22 : decode cX9_snap 22 = .ok (.iload_n 1, 1) := by decide +kernel
theorem dX9_snap_23 : decode cX9_snap 23 = .ok (.aload_n 0, 1) := by decide +kernel
theorem dX9_snap_24 : decode cX9_snap 24 = .ok (.getfield 70, 3) := by decide +kernel
theorem dX9_snap_27 : decode cX9_snap 27 = .ok (.iload_n 1, 1) := by decide +kernel
theorem dX9_snap_28 : decode cX9_snap 28 = .ok (.bipush 36, 2) := by decide +kernel
theorem dX9_snap_30 : decode cX9_snap 30 = .ok (.iadd, 1) := by decide +kernel
theorem dX9_snap_31 : decode cX9_snap 31 = .ok (.iaload, 1) := by decide +kernel
theorem dX9_snap_32 : decode cX9_snap 32 = .ok (.iastore, 1) := by decide +kernel
theorem dX9_snap_33 : decode cX9_snap 33 = .ok (.iinc 1 1, 3) := by decide +kernel
theorem dX9_snap_36 : decode cX9_snap 36 = .ok (.goto (-25), 3) := by decide +kernel
theorem dX9_snap_39 : decode cX9_snap 39 = .ok (.aload_n 0, 1) := by decide +kernel
theorem dX9_snap_40 : decode cX9_snap 40 = .ok (.dup, 1) := by decide +kernel
theorem dX9_snap_41 : decode cX9_snap 41 = .ok (.getfield 167, 3) := by decide +kernel
theorem dX9_snap_44 : decode cX9_snap 44 = .ok (.iconst 1, 1) := by decide +kernel
theorem dX9_snap_45 : decode cX9_snap 45 = .ok (.isub, 1) := by decide +kernel
theorem dX9_snap_46 : decode cX9_snap 46 = .ok (.putfield 167, 3) := by decide +kernel
theorem dX9_snap_49 : decode cX9_snap 49 = .ok (.iconst 0, 1) := by decide +kernel
theorem dX9_snap_50 : decode cX9_snap 50 = .ok (.istore_n 1, 1) := by decide +kernel
theorem dX9_snap_51 : decode cX9_snap 51 = .ok (.iload_n 1, 1) := by decide +kernel
theorem dX9_snap_52 : decode cX9_snap 52 = .ok (.bipush 36, 2) := by decide +kernel
theorem dX9_snap_54 : decode cX9_snap 54 = .ok (.if_icmp .ge 29, 3) := by decide +kernel
theorem dX9_snap_57 : decode cX9_snap 57 = .ok (.aload_n 0, 1) := by decide +kernel
theorem dX9_snap_58 : decode cX9_snap 58 = .ok (.getfield 70, 3) := by decide +kernel
theorem dX9_snap_61 : decode cX9_snap 61 = .ok (.bipush 36, 2) := by decide +kernel
theorem dX9_snap_63 : decode cX9_snap 63 = .ok (.aload_n 0, 1) := by decide +kernel
theorem dX9_snap_64 : decode cX9_snap 64 = .ok (.getfield 167, 3) := by decide +kernel
theorem dX9_snap_67 : decode cX9_snap 67 = .ok (.imul, 1) := by decide +kernel
theorem dX9_snap_68 : decode cX9_snap 68 = .ok (.iload_n 1, 1) := by decide +kernel
theorem dX9_snap_69 : decode cX9_snap 69 = .ok (.iadd, 1) := by decide +kernel
theorem dX9_snap_70 : decode cX9_snap 70 = .ok (.aload_n 0, 1) := by decide +kernel
theorem dX9_snap_71 : decode cX9_snap 71 = .ok (.getfield 64, 3) := by decide +kernel
theorem dX9_snap_74 : decode cX9_snap 74 = .ok (.iload_n 1, 1) := by decide +kernel
theorem dX9_snap_75 : decode cX9_snap 75 = .ok (.iaload, 1) := by decide +kernel
theorem dX9_snap_76 : decode cX9_snap 76 = .ok (.iastore, 1) := by decide +kernel
theorem dX9_snap_77 : decode cX9_snap 77 = .ok (.iinc 1 1, 3) := by decide +kernel
theorem dX9_snap_80 : decode cX9_snap 80 = .ok (.goto (-29), 3) := by decide +kernel
theorem dX9_snap_83 : decode cX9_snap 83 = .ok (.aload_n 0, 1) := by decide +kernel
theorem dX9_snap_84 : decode cX9_snap 84 = .ok (.dup, 1) := by decide +kernel
theorem dX9_snap_85 : decode cX9_snap 85 = .ok (.getfield 167, 3) := by decide +kernel
theorem dX9_snap_88 : decode cX9_snap 88 = .ok (.iconst 1, 1) := by decide +kernel
theorem dX9_snap_89 : decode cX9_snap 89 = .ok (.iadd, 1) := by decide +kernel
theorem dX9_snap_90 : decode cX9_snap 90 = .ok (.putfield 167, 3) := by decide +kernel
theorem dX9_snap_93 : decode cX9_snap 93 = .ok (.return_, 1) := by decide +kernel
theorem dX9_tells_0 : decode cX9_tells 0 = .ok (.aload_n 0, 1) := by decide +kernel
theorem dX9_tells_1 : decode cX9_tells 1 = .ok (.getfield 64, 3) := by decide +kernel
theorem dX9_tells_4 : decode cX9_tells 4 = .ok (.iload_n 1, 1) := by decide +kernel
theorem dX9_tells_5 : decode cX9_tells 5 = .ok (.iaload, 1) := by decide +kernel
theorem dX9_tells_6 : decode cX9_tells 6 = .ok (.iload_n 2, 1) := by decide +kernel
theorem dX9_tells_7 : decode cX9_tells 7 = .ok (.if_icmp .ne 6, 3) := by decide +kernel
theorem dX9_tells_10 : decode cX9_tells 10 = .ok (.bipush (-2), 2) := by decide +kernel
theorem dX9_tells_12 : decode cX9_tells 12 = .ok (.ireturn, 1) := by decide +kernel
theorem dX9_tells_13 : decode cX9_tells 13 = .ok (.aload_n 0, 1) := by decide +kernel
theorem dX9_tells_14 : decode cX9_tells 14 = .ok (.invokevirtual 271, 3) := by decide +kernel
theorem dX9_tells_17 : decode cX9_tells 17 = .ok (.aload_n 0, 1) := by decide +kernel
theorem dX9_tells_18 : decode cX9_tells 18 = .ok (.getfield 64, 3) := by decide +kernel
theorem dX9_tells_21 : decode cX9_tells 21 = .ok (.iload_n 1, 1) := by decide +kernel
theorem dX9_tells_22 : decode cX9_tells 22 = .ok (.iaload, 1) := by decide +kernel
theorem dX9_tells_23 : decode cX9_tells 23 = .ok (.istore_n 3, 1) := by decide +kernel
theorem dX9_tells_24 : decode cX9_tells 24 = .ok (.aload_n 0, 1) := by decide +kernel
theorem dX9_tells_25 : decode cX9_tells 25 = .ok (.getfield 64, 3) := by decide +kernel
theorem dX9_tells_28 : decode cX9_tells 28 = .ok (.iload_n 1, 1) := by decide +kernel
theorem dX9_tells_29 : decode cX9_tells 29 = .ok (.iload_n 2, 1) := by decide +kernel
theorem dX9_tells_30 : decode cX9_tells 30 = .ok (.iastore, 1) := by decide +kernel
theorem dX9_tells_31 : decode cX9_tells 31 = .ok (.iload_n 3, 1) := by decide +kernel
theorem dX9_tells_32 : decode cX9_tells 32 = .ok (.ireturn, 1) := by decide +kernel
theorem dX9_fuel_0 : decode cX9_fuel 0 = .ok (.aload_n 0, 1) := by decide +kernel
theorem dX9_fuel_1 : decode cX9_fuel 1 = .ok (.iconst 0, 1) := by decide +kernel
theorem dX9_fuel_2 : decode cX9_fuel 2 = .ok (.putfield 1, 3) := by decide +kernel
theorem dX9_fuel_5 : decode cX9_fuel 5 = .ok (.aload_n 0, 1) := by decide +kernel
theorem dX9_fuel_6 : decode cX9_fuel 6 = .ok (.iload_n 1, 1) := by decide +kernel
theorem dX9_fuel_7 : decode cX9_fuel 7 = .ok (.invokevirtual 268, 3) := by decide +kernel
theorem dX9_fuel_10 : decode cX9_fuel 10 = .ok (.ifCond .eq 25, 3) := by decide +kernel
theorem dX9_fuel_13 : decode cX9_fuel 13 = .ok (.iload_n 2, 1) := by decide +kernel
theorem dX9_fuel_14 : decode cX9_fuel 14 = .ok (.iconst (-1), 1) := by decide +kernel
theorem dX9_fuel_15 : decode cX9_fuel 15 = .ok (.sipush 9999, 3) := by decide +kernel
theorem dX9_fuel_18 : decode cX9_fuel 18 = .ok (.invokestatic 113, 3) := by decide +kernel
theorem dX9_fuel_21 : decode cX9_fuel 21 = .ok (.ifCond .eq 14, 3) := by decide +kernel
theorem dX9_fuel_24 : decode cX9_fuel 24 = .ok (.aload_n 0, 1) := by decide +kernel
theorem dX9_fuel_25 : decode cX9_fuel 25 = .ok (.iconst 4, 1) := by decide +kernel
theorem dX9_fuel_26 : decode cX9_fuel 26 = .ok (.iload_n 1, 1) := by decide +kernel
theorem dX9_fuel_27 : decode cX9_fuel 27 = .ok (.iadd, 1) := by decide +kernel
theorem dX9_fuel_28 : decode cX9_fuel 28 = .ok (.iload_n 2, 1) := by decide +kernel
theorem dX9_fuel_29 : decode cX9_fuel 29 = .ok (.invokevirtual 274, 3) := by decide +kernel
theorem dX9_fuel_32 : decode cX9_fuel 32 = .ok (.goto 5, 3) := by decide +kernel
theorem dX9_fuel_35 : decode cX9_fuel 35 = .ok (.bipush (-2), 2) := by decide +kernel
theorem dX9_fuel_37 : decode cX9_fuel 37 = .ok (.ireturn, 1) := by decide +kernel
theorem dX9_buy_0 : decode cX9_buy 0 = .ok (.aload_n 0, 1) := by decide +kernel
theorem dX9_buy_1 : decode cX9_buy 1 = .ok (.iconst 0, 1) := by decide +kernel
theorem dX9_buy_2 : decode cX9_buy 2 = .ok (.putfield 1, 3) := by decide +kernel
theorem dX9_buy_5 : decode cX9_buy 5 = .ok (.aload_n 0, 1) := by decide +kernel
theorem dX9_buy_6 : decode cX9_buy 6 = .ok (.iload_n 1, 1) := by decide +kernel
theorem dX9_buy_7 : decode cX9_buy 7 = .ok (.invokevirtual 249, 3) := by decide +kernel
theorem dX9_buy_10 : decode cX9_buy 10 = .ok (.ifCond .eq 25, 3) := by decide +kernel
theorem dX9_buy_13 : decode cX9_buy 13 = .ok (.iload_n 2, 1) := by decide +kernel
theorem dX9_buy_14 : decode cX9_buy 14 = .ok (.iconst 0, 1) := by decide +kernel
theorem dX9_buy_15 : decode cX9_buy 15 = .ok (.sipush 9999, 3) := by decide +kernel
theorem dX9_buy_18 : decode cX9_buy 18 = .ok (.invokestatic 113, 3) := by decide +kernel
theorem dX9_buy_21 : decode cX9_buy 21 = .ok (.ifCond .eq 14, 3) := by decide +kernel
theorem dX9_buy_24 : decode cX9_buy 24 = .ok (.aload_n 0, 1) := by decide +kernel
theorem dX9_buy_25 : decode cX9_buy 25 = .ok (.iconst 0, 1) := by decide +kernel
theorem dX9_buy_26 : decode cX9_buy 26 = .ok (.iload_n 1, 1) := by decide +kernel
theorem dX9_buy_27 : decode cX9_buy 27 = .ok (.iadd, 1) := by decide +kernel
theorem dX9_buy_28 : decode cX9_buy 28 = .ok (.iload_n 2, 1) := by decide +kernel
theorem dX9_buy_29 : decode cX9_buy 29 = .ok (.invokevirtual 274, 3) := by decide +kernel
theorem dX9_buy_32 : decode cX9_buy 32 = .ok (.goto 5, 3) := by decide +kernel
theorem dX9_buy_35 : decode cX9_buy 35 = .ok (.bipush (-2), 2) := by decide +kernel
theorem dX9_buy_37 : decode cX9_buy 37 = .ok (.ireturn, 1) := by decide +kernel
theorem dX9_weigh_0 : decode cX9_weigh 0 = .ok (.aload_n 0, 1) := by decide +kernel
theorem dX9_weigh_1 : decode cX9_weigh 1 = .ok (.iconst 0, 1) := by decide +kernel
theorem dX9_weigh_2 : decode cX9_weigh 2 = .ok (.putfield 1, 3) := by decide +kernel
theorem dX9_weigh_5 : decode cX9_weigh 5 = .ok (.aload_n 0, 1) := by decide +kernel
theorem dX9_weigh_6 : decode cX9_weigh 6 = .ok (.iload_n 1, 1) := by decide +kernel
theorem dX9_weigh_7 : decode cX9_weigh 7 = .ok (.invokevirtual 256, 3) := by decide +kernel
theorem dX9_weigh_10 : decode cX9_weigh 10 = .ok (.ifCond .eq 25, 3) := by decide +kernel
theorem dX9_weigh_13 : decode cX9_weigh 13 = .ok (.iload_n 2, 1) := by decide +kernel
theorem dX9_weigh_14 : decode cX9_weigh 14 = .ok (.iconst 1, 1) := by decide +kernel
theorem dX9_weigh_15 : decode cX9_weigh 15 = .ok (.bipush 99, 2) := by decide +kernel
theorem dX9_weigh_17 : decode cX9_weigh 17 = .ok (.invokestatic 113, 3) := by decide +kernel
theorem dX9_weigh_20 : decode cX9_weigh 20 = .ok (.ifCond .eq 15, 3) := by decide +kernel
theorem dX9_weigh_23 : decode cX9_weigh 23 = .ok (.aload_n 0, 1) := by decide +kernel
theorem dX9_weigh_24 : decode cX9_weigh 24 = .ok (.bipush 20, 2) := by decide +kernel
theorem dX9_weigh_26 : decode cX9_weigh 26 = .ok (.iload_n 1, 1) := by decide +kernel
theorem dX9_weigh_27 : decode cX9_weigh 27 = .ok (.iadd, 1) := by decide +kernel
theorem dX9_weigh_28 : decode cX9_weigh 28 = .ok (.iload_n 2, 1) := by decide +kernel
theorem dX9_weigh_29 : decode cX9_weigh 29 = .ok (.invokevirtual 274, 3) := by decide +kernel
theorem dX9_weigh_32 : decode cX9_weigh 32 = .ok (.goto 5, 3) := by decide +kernel
theorem dX9_weigh_35 : decode cX9_weigh 35 = .ok (.bipush (-2), 2) := by decide +kernel
theorem dX9_weigh_37 : decode cX9_weigh 37 = .ok (.ireturn, 1) := by decide +kernel
theorem dX9_undo_0 : decode cX9_undo 0 = .ok (.aload_n 0, 1) := by decide +kernel
theorem dX9_undo_1 : decode cX9_undo 1 = .ok (.iconst 0, 1) := by decide +kernel
theorem dX9_undo_2 : decode cX9_undo 2 = .ok (.putfield 1, 3) := by decide +kernel
theorem dX9_undo_5 : decode cX9_undo 5 = .ok (.aload_n 0, 1) := by decide +kernel
theorem dX9_undo_6 : decode cX9_undo 6 = .ok (.getfield 167, 3) := by decide +kernel
theorem dX9_undo_9 : decode cX9_undo 9 = .ok (.ifCond .ne 5, 3) := by decide +kernel
theorem dX9_undo_12 : decode cX9_undo 12 = .ok (.iconst (-1), 1) := by decide +kernel
theorem dX9_undo_13 : decode cX9_undo 13 = .ok (.ireturn, 1) := by decide +kernel
theorem dX9_undo_14 : decode cX9_undo 14 = .ok (.aload_n 0, 1) := by decide +kernel
theorem dX9_undo_15 : decode cX9_undo 15 = .ok (.dup, 1) := by decide +kernel
theorem dX9_undo_16 : decode cX9_undo 16 = .ok (.getfield 167, 3) := by decide +kernel
theorem dX9_undo_19 : decode cX9_undo 19 = .ok (.iconst 1, 1) := by decide +kernel
theorem dX9_undo_20 : decode cX9_undo 20 = .ok (.isub, 1) := by decide +kernel
theorem dX9_undo_21 : decode cX9_undo 21 = .ok (.putfield 167, 3) := by decide +kernel
theorem dX9_undo_24 : decode cX9_undo 24 = .ok (.iconst 0, 1) := by decide +kernel
theorem dX9_undo_25 : decode cX9_undo 25 = .ok (.istore_n 1, 1) := by decide +kernel
theorem dX9_undo_26 : decode cX9_undo 26 = .ok (.iload_n 1, 1) := by decide +kernel
theorem dX9_undo_27 : decode cX9_undo 27 = .ok (.bipush 36, 2) := by decide +kernel
theorem dX9_undo_29 : decode cX9_undo 29 = .ok (.if_icmp .ge 29, 3) := by decide +kernel
theorem dX9_undo_32 : decode cX9_undo 32 = .ok (.aload_n 0, 1) := by decide +kernel
theorem dX9_undo_33 : decode cX9_undo 33 = .ok (.getfield 64, 3) := by decide +kernel
theorem dX9_undo_36 : decode cX9_undo 36 = .ok (.iload_n 1, 1) := by decide +kernel
theorem dX9_undo_37 : decode cX9_undo 37 = .ok (.aload_n 0, 1) := by decide +kernel
theorem dX9_undo_38 : decode cX9_undo 38 = .ok (.getfield 70, 3) := by decide +kernel
theorem dX9_undo_41 : decode cX9_undo 41 = .ok (.bipush 36, 2) := by decide +kernel
theorem dX9_undo_43 : decode cX9_undo 43 = .ok (.aload_n 0, 1) := by decide +kernel
theorem dX9_undo_44 : decode cX9_undo 44 = .ok (.getfield 167, 3) := by decide +kernel
theorem dX9_undo_47 : decode cX9_undo 47 = .ok (.imul, 1) := by decide +kernel
theorem dX9_undo_48 : decode cX9_undo 48 = .ok (.iload_n 1, 1) := by decide +kernel
theorem dX9_undo_49 : decode cX9_undo 49 = .ok (.iadd, 1) := by decide +kernel
theorem dX9_undo_50 : decode cX9_undo 50 = .ok (.iaload, 1) := by decide +kernel
theorem dX9_undo_51 : decode cX9_undo 51 = .ok (.iastore, 1) := by decide +kernel
theorem dX9_undo_52 : decode cX9_undo 52 = .ok (.iinc 1 1, 3) := by decide +kernel
theorem dX9_undo_55 : decode cX9_undo 55 = .ok (.goto (-29), 3) := by decide +kernel
theorem dX9_undo_58 : decode cX9_undo 58 = .ok (.aload_n 0, 1) := by decide +kernel
theorem dX9_undo_59 : decode cX9_undo 59 = .ok (.getfield 167, 3) := by decide +kernel
theorem dX9_undo_62 : decode cX9_undo 62 = .ok (.ireturn, 1) := by decide +kernel
