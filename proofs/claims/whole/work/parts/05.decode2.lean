theorem dX8_init_0 : decode cX8_init 0 = .ok (.aload_n 0, 1) := by decide +kernel
theorem dX8_init_1 : decode cX8_init 1 = .ok (.invokespecial 3, 3) := by decide +kernel
theorem dX8_init_4 : decode cX8_init 4 = .ok (.aload_n 0, 1) := by decide +kernel
theorem dX8_init_5 : decode cX8_init 5 = .ok (.new 9, 3) := by decide +kernel
theorem dX8_init_8 : decode cX8_init 8 = .ok (.dup, 1) := by decide +kernel
theorem dX8_init_9 : decode cX8_init 9 = .ok (.invokespecial 11, 3) := by decide +kernel
theorem dX8_init_12 : decode cX8_init 12 = .ok (.putfield 12, 3) := by decide +kernel
theorem dX8_init_15 : decode cX8_init 15 = .ok (.aload_n 0, 1) := by decide +kernel
theorem dX8_init_16 : decode cX8_init 16 = .ok (.new 16, 3) := by decide +kernel
theorem dX8_init_19 : decode cX8_init 19 = .ok (.dup, 1) := by decide +kernel
theorem dX8_init_20 : decode cX8_init 20 = .ok (.aload_n 0, 1) := by decide +kernel
theorem dX8_init_21 : decode cX8_init 21 = .ok (.getfield 12, 3) := by decide +kernel
theorem dX8_init_24 : decode cX8_init 24 = .ok (.invokespecial 18, 3) := by decide +kernel
theorem dX8_init_27 : decode cX8_init 27 = .ok (.putfield 21, 3) := by decide +kernel
theorem dX8_init_30 : decode cX8_init 30 = .ok (.aload_n 0, 1) := by decide +kernel
theorem dX8_init_31 : decode cX8_init 31 = .ok (.new 25, 3) := by decide +kernel
theorem dX8_init_34 : decode cX8_init 34 = .ok (.dup, 1) := by decide +kernel
theorem dX8_init_35 : decode cX8_init 35 = .ok (.invokespecial 27, 3) := by decide +kernel
theorem dX8_init_38 : decode cX8_init 38 = .ok (.putfield 28, 3) := by decide +kernel
theorem dX8_init_41 : decode cX8_init 41 = .ok (.aload_n 0, 1) := by decide +kernel
theorem dX8_init_42 : decode cX8_init 42 = .ok (.new 32, 3) := by decide +kernel
theorem dX8_init_45 : decode cX8_init 45 = .ok (.dup, 1) := by decide +kernel
theorem dX8_init_46 : decode cX8_init 46 = .ok (.invokespecial 34, 3) := by decide +kernel
theorem dX8_init_49 : decode cX8_init 49 = .ok (.putfield 35, 3) := by decide +kernel
theorem dX8_init_52 : decode cX8_init 52 = .ok (.aload_n 0, 1) := by decide +kernel
theorem dX8_init_53 : decode cX8_init 53 = .ok (.new 32, 3) := by decide +kernel
theorem dX8_init_56 : decode cX8_init 56 = .ok (.dup, 1) := by decide +kernel
theorem dX8_init_57 : decode cX8_init 57 = .ok (.invokespecial 34, 3) := by decide +kernel
theorem dX8_init_60 : decode cX8_init 60 = .ok (.putfield 39, 3) := by decide +kernel
theorem dX8_init_63 : decode cX8_init 63 = .ok (.aload_n 0, 1) := by decide +kernel
theorem dX8_init_64 : decode cX8_init 64 = .ok (.new 42, 3) := by decide +kernel
theorem dX8_init_67 : decode cX8_init 67 = .ok (.dup, 1) := by decide +kernel
theorem dX8_init_68 : decode cX8_init 68 = .ok (.invokespecial 44, 3) := by decide +kernel
theorem dX8_init_71 : decode cX8_init 71 = .ok (.putfield 45, 3) := by decide +kernel
theorem dX8_init_74 : decode cX8_init 74 = .ok (.aload_n 0, 1) := by decide +kernel
theorem dX8_init_75 : decode cX8_init 75 = .ok (.new 49, 3) := by decide +kernel
theorem dX8_init_78 : decode cX8_init 78 = .ok (.dup, 1) := by decide +kernel
theorem dX8_init_79 : decode cX8_init 79 = .ok (.invokespecial 51, 3) := by decide +kernel
theorem dX8_init_82 : decode cX8_init 82 = .ok (.putfield 52, 3) := by decide +kernel
theorem dX8_init_85 : decode cX8_init 85 = .ok (.aload_n 0, 1) := by decide +kernel
theorem dX8_init_86 : decode cX8_init 86 = .ok (.new 49, 3) := by decide +kernel
theorem dX8_init_89 : decode cX8_init 89 = .ok (.dup, 1) := by decide +kernel
theorem dX8_init_90 : decode cX8_init 90 = .ok (.invokespecial 51, 3) := by decide +kernel
theorem dX8_init_93 : decode cX8_init 93 = .ok (.putfield 56, 3) := by decide +kernel
theorem dX8_init_96 : decode cX8_init 96 = .ok (.aload_n 0, 1) := by decide +kernel
theorem dX8_init_97 : decode cX8_init 97 = .ok (.iconst 0, 1) := by decide +kernel
theorem dX8_init_98 : decode cX8_init 98 = .ok (.putfield 59, 3) := by decide +kernel
theorem dX8_init_101 : decode cX8_init 101 = .ok (.return_, 1) := by decide +kernel
theorem dX8_feed_0 : decode cX8_feed 0 = .ok (.aload_n 0, 1) := by decide +kernel
theorem dX8_feed_1 : decode cX8_feed 1 = .ok (.getfield 12, 3) := by decide +kernel
theorem dX8_feed_4 : decode cX8_feed 4 = .ok (.getfield 63, 3) := by decide +kernel
theorem dX8_feed_7 : decode cX8_feed 7 = .ok (.sipush 820, 3) := by decide +kernel
theorem dX8_feed_10 : decode cX8_feed 10 = .ok (.if_icmp .le 5, 3) := by decide +kernel
theorem dX8_feed_13 : decode cX8_feed 13 = .ok (.iconst (-1), 1) := by decide +kernel
theorem dX8_feed_14 : decode cX8_feed 14 = .ok (.ireturn, 1) := by decide +kernel
theorem dX8_feed_15 : decode cX8_feed 15 = .ok (.aload_n 0, 1) := by decide +kernel
theorem dX8_feed_16 : decode cX8_feed 16 = .ok (.getfield 12, 3) := by decide +kernel
theorem dX8_feed_19 : decode cX8_feed 19 = .ok (.iload_n 1, 1) := by decide +kernel
theorem dX8_feed_20 : decode cX8_feed 20 = .ok (.invokevirtual 66, 3) := by decide +kernel
theorem dX8_feed_23 : decode cX8_feed 23 = .ok (.aload_n 0, 1) := by decide +kernel
theorem dX8_feed_24 : decode cX8_feed 24 = .ok (.getfield 12, 3) := by decide +kernel
theorem dX8_feed_27 : decode cX8_feed 27 = .ok (.iload_n 2, 1) := by decide +kernel
theorem dX8_feed_28 : decode cX8_feed 28 = .ok (.invokevirtual 66, 3) := by decide +kernel
theorem dX8_feed_31 : decode cX8_feed 31 = .ok (.aload_n 0, 1) := by decide +kernel
theorem dX8_feed_32 : decode cX8_feed 32 = .ok (.getfield 12, 3) := by decide +kernel
theorem dX8_feed_35 : decode cX8_feed 35 = .ok (.iload_n 3, 1) := by decide +kernel
theorem dX8_feed_36 : decode cX8_feed 36 = .ok (.invokevirtual 66, 3) := by decide +kernel
theorem dX8_feed_39 : decode cX8_feed 39 = .ok (.aload_n 0, 1) := by decide +kernel
theorem dX8_feed_40 : decode cX8_feed 40 = .ok (.getfield 12, 3) := by decide +kernel
theorem dX8_feed_43 : decode cX8_feed 43 = .ok (.iload 4, 2) := by decide +kernel
theorem dX8_feed_45 : decode cX8_feed 45 = .ok (.invokevirtual 66, 3) := by decide +kernel
theorem dX8_feed_48 : decode cX8_feed 48 = .ok (.aload_n 0, 1) := by decide +kernel
theorem dX8_feed_49 : decode cX8_feed 49 = .ok (.getfield 12, 3) := by decide +kernel
theorem dX8_feed_52 : decode cX8_feed 52 = .ok (.iload 5, 2) := by decide +kernel
theorem dX8_feed_54 : decode cX8_feed 54 = .ok (.invokevirtual 66, 3) := by decide +kernel
theorem dX8_feed_57 : decode cX8_feed 57 = .ok (.aload_n 0, 1) := by decide +kernel
theorem dX8_feed_58 : decode cX8_feed 58 = .ok (.getfield 12, 3) := by decide +kernel
theorem dX8_feed_61 : decode cX8_feed 61 = .ok (.getfield 63, 3) := by decide +kernel
theorem dX8_feed_64 : decode cX8_feed 64 = .ok (.ireturn, 1) := by decide +kernel
theorem dX8_end_0 : decode cX8_end 0 = .ok (.iload_n 1, 1) := by decide +kernel
theorem dX8_end_1 : decode cX8_end 1 = .ok (.ifCond .lt 14, 3) := by decide +kernel
theorem dX8_end_4 : decode cX8_end 4 = .ok (.iload_n 1, 1) := by decide +kernel
theorem dX8_end_5 : decode cX8_end 5 = .ok (.aload_n 0, 1) := by decide +kernel
theorem dX8_end_6 : decode cX8_end 6 = .ok (.getfield 12, 3) := by decide +kernel
theorem dX8_end_9 : decode cX8_end 9 = .ok (.getfield 63, 3) := by decide +kernel
theorem dX8_end_12 : decode cX8_end 12 = .ok (.if_icmp .le 5, 3) := by decide +kernel
theorem dX8_end_15 : decode cX8_end 15 = .ok (.iconst 0, 1) := by decide +kernel
theorem dX8_end_16 : decode cX8_end 16 = .ok (.ireturn, 1) := by decide +kernel
theorem dX8_end_17 : decode cX8_end 17 = .ok (.aload_n 0, 1) := by decide +kernel
theorem dX8_end_18 : decode cX8_end 18 = .ok (.getfield 12, 3) := by decide +kernel
theorem dX8_end_21 : decode cX8_end 21 = .ok (.iload_n 1, 1) := by decide +kernel
theorem dX8_end_22 : decode cX8_end 22 = .ok (.putfield 63, 3) := by decide +kernel
theorem dX8_end_25 : decode cX8_end 25 = .ok (.iconst 1, 1) := by decide +kernel
theorem dX8_end_26 : decode cX8_end 26 = .ok (.ireturn, 1) := by decide +kernel
theorem dX8_text_0 : decode cX8_text 0 = .ok (.aload_n 0, 1) := by decide +kernel
theorem dX8_text_1 : decode cX8_text 1 = .ok (.getfield 21, 3) := by decide +kernel
theorem dX8_text_4 : decode cX8_text 4 = .ok (.aload_n 0, 1) := by decide +kernel
theorem dX8_text_5 : decode cX8_text 5 = .ok (.getfield 56, 3) := by decide +kernel
theorem dX8_text_8 : decode cX8_text 8 = .ok (.invokevirtual 70, 3) := by decide +kernel
theorem dX8_text_11 : decode cX8_text 11 = .ok (.istore_n 1, 1) := by decide +kernel
theorem dX8_text_12 : decode cX8_text 12 = .ok (.aload_n 0, 1) := by decide +kernel
theorem dX8_text_13 : decode cX8_text 13 = .ok (.getfield 12, 3) := by decide +kernel
theorem dX8_text_16 : decode cX8_text 16 = .ok (.iconst 0, 1) := by decide +kernel
theorem dX8_text_17 : decode cX8_text 17 = .ok (.putfield 63, 3) := by decide +kernel
theorem dX8_text_20 : decode cX8_text 20 = .ok (.aload_n 0, 1) := by decide +kernel
theorem dX8_text_21 : decode cX8_text 21 = .ok (.aload_n 0, 1) := by decide +kernel
theorem dX8_text_22 : decode cX8_text 22 = .ok (.getfield 21, 3) := by decide +kernel
theorem dX8_text_25 : decode cX8_text 25 = .ok (.getfield 74, 3) := by decide +kernel
theorem dX8_text_28 : decode cX8_text 28 = .ok (.putfield 59, 3) := by decide +kernel
theorem dX8_text_31 : decode cX8_text 31 = .ok (.iload_n 1, 1) := by decide +kernel
theorem dX8_text_32 : decode cX8_text 32 = .ok (.ifCond .ne 13, 3) := by decide +kernel
theorem dX8_text_35 : decode cX8_text 35 = .ok (.iconst (-1), 1) := by decide +kernel
theorem dX8_text_36 : decode cX8_text 36 = .ok (.aload_n 0, 1) := by decide +kernel
theorem dX8_text_37 : decode cX8_text 37 = .ok (.getfield 21, 3) := by decide +kernel
theorem dX8_text_40 : decode cX8_text 40 = .ok (.getfield 77, 3) := by decide +kernel
theorem dX8_text_43 : decode cX8_text 43 = .ok (.isub, 1) := by decide +kernel
theorem dX8_text_44 : decode cX8_text 44 = .ok (.ireturn, 1) := by decide +kernel
theorem dX8_text_45 : decode cX8_text 45 = .ok (.aload_n 0, 1) := by decide +kernel
theorem dX8_text_46 : decode cX8_text 46 = .ok (.getfield 56, 3) := by decide +kernel
theorem dX8_text_49 : decode cX8_text 49 = .ok (.astore_n 2, 1) := by decide +kernel
theorem dX8_text_50 : decode cX8_text 50 = .ok (.aload_n 0, 1) := by decide +kernel
theorem dX8_text_51 : decode cX8_text 51 = .ok (.aload_n 0, 1) := by decide +kernel
theorem dX8_text_52 : decode cX8_text 52 = .ok (.getfield 52, 3) := by decide +kernel
theorem dX8_text_55 : decode cX8_text 55 = .ok (.putfield 56, 3) := by decide +kernel
theorem dX8_text_58 : decode cX8_text 58 = .ok (.aload_n 0, 1) := by decide +kernel
theorem dX8_text_59 : decode cX8_text 59 = .ok (.aload_n 2, 1) := by decide +kernel
theorem dX8_text_60 : decode cX8_text 60 = .ok (.putfield 52, 3) := by decide +kernel
theorem dX8_text_63 : decode cX8_text 63 = .ok (.aload_n 0, 1) := by decide +kernel
theorem dX8_text_64 : decode cX8_text 64 = .ok (.getfield 45, 3) := by decide +kernel
theorem dX8_text_67 : decode cX8_text 67 = .ok (.iconst 0, 1) := by decide +kernel
theorem dX8_text_68 : decode cX8_text 68 = .ok (.putfield 80, 3) := by decide +kernel
theorem dX8_text_71 : decode cX8_text 71 = .ok (.aload_n 0, 1) := by decide +kernel
theorem dX8_text_72 : decode cX8_text 72 = .ok (.getfield 28, 3) := by decide +kernel
theorem dX8_text_75 : decode cX8_text 75 = .ok (.aload_n 0, 1) := by decide +kernel
theorem dX8_text_76 : decode cX8_text 76 = .ok (.getfield 52, 3) := by decide +kernel
theorem dX8_text_79 : decode cX8_text 79 = .ok (.invokevirtual 83, 3) := by decide +kernel
theorem dX8_text_82 : decode cX8_text 82 = .ok (.aload_n 0, 1) := by decide +kernel
theorem dX8_text_83 : decode cX8_text 83 = .ok (.invokevirtual 87, 3) := by decide +kernel
theorem dX8_text_86 : decode cX8_text 86 = .ok (.aload_n 0, 1) := by decide +kernel
theorem dX8_text_87 : decode cX8_text 87 = .ok (.getfield 21, 3) := by decide +kernel
theorem dX8_text_90 : decode cX8_text 90 = .ok (.getfield 90, 3) := by decide +kernel
theorem dX8_text_93 : decode cX8_text 93 = .ok (.ireturn, 1) := by decide +kernel
theorem dX8_fault_0 : decode cX8_fault 0 = .ok (.aload_n 0, 1) := by decide +kernel
theorem dX8_fault_1 : decode cX8_fault 1 = .ok (.getfield 59, 3) := by decide +kernel
theorem dX8_fault_4 : decode cX8_fault 4 = .ok (.ireturn, 1) := by decide +kernel
theorem dX8_now_0 : decode cX8_now 0 = .ok (.iload_n 1, 1) := by decide +kernel
theorem dX8_now_1 : decode cX8_now 1 = .ok (.tableswitch 176 0 11 #[63, 71, 79, 87, 95, 103, 121, 139, 147, 152, 160, 168], 63) := by decide +kernel
theorem dX8_now_64 : decode cX8_now 64 = .ok (.aload_n 0, 1) := by decide +kernel
theorem dX8_now_65 : decode cX8_now 65 = .ok (.getfield 52, 3) := by decide +kernel
theorem dX8_now_68 : decode cX8_now 68 = .ok (.getfield 93, 3) := by decide +kernel
theorem dX8_now_71 : decode cX8_now 71 = .ok (.ireturn, 1) := by decide +kernel
theorem dX8_now_72 : decode cX8_now 72 = .ok (.aload_n 0, 1) := by decide +kernel
theorem dX8_now_73 : decode cX8_now 73 = .ok (.getfield 52, 3) := by decide +kernel
theorem dX8_now_76 : decode cX8_now 76 = .ok (.getfield 96, 3) := by decide +kernel
theorem dX8_now_79 : decode cX8_now 79 = .ok (.ireturn, 1) := by decide +kernel
theorem dX8_now_80 : decode cX8_now 80 = .ok (.aload_n 0, 1) := by decide +kernel
theorem dX8_now_81 : decode cX8_now 81 = .ok (.getfield 52, 3) := by decide +kernel
theorem dX8_now_84 : decode cX8_now 84 = .ok (.getfield 99, 3) := by decide +kernel
theorem dX8_now_87 : decode cX8_now 87 = .ok (.ireturn, 1) := by decide +kernel
theorem dX8_now_88 : decode cX8_now 88 = .ok (.aload_n 0, 1) := by decide +kernel
theorem dX8_now_89 : decode cX8_now 89 = .ok (.getfield 52, 3) := by decide +kernel
theorem dX8_now_92 : decode cX8_now 92 = .ok (.getfield 102, 3) := by decide +kernel
theorem dX8_now_95 : decode cX8_now 95 = .ok (.ireturn, 1) := by decide +kernel
theorem dX8_now_96 : decode cX8_now 96 = .ok (.aload_n 0, 1) := by decide +kernel
theorem dX8_now_97 : decode cX8_now 97 = .ok (.getfield 52, 3) := by decide +kernel
theorem dX8_now_100 : decode cX8_now 100 = .ok (.getfield 105, 3) := by decide +kernel
theorem dX8_now_103 : decode cX8_now 103 = .ok (.ireturn, 1) := by decide +kernel
theorem dX8_now_104 : decode cX8_now 104 = .ok (.aload_n 0, 1) := by decide +kernel
theorem dX8_now_105 : decode cX8_now 105 = .ok (.getfield 52, 3) := by decide +kernel
theorem dX8_now_108 : decode cX8_now 108 = .ok (.getfield 108, 3) := by decide +kernel
theorem dX8_now_111 : decode cX8_now 111 = .ok (.aload_n 0, 1) := by decide +kernel
theorem dX8_now_112 : decode cX8_now 112 = .ok (.getfield 52, 3) := by decide +kernel
theorem dX8_now_115 : decode cX8_now 115 = .ok (.getfield 99, 3) := by decide +kernel
theorem dX8_now_118 : decode cX8_now 118 = .ok (.invokestatic 112, 3) := by decide +kernel
theorem dX8_now_121 : decode cX8_now 121 = .ok (.ireturn, 1) := by decide +kernel
theorem dX8_now_122 : decode cX8_now 122 = .ok (.aload_n 0, 1) := by decide +kernel
theorem dX8_now_123 : decode cX8_now 123 = .ok (.getfield 35, 3) := by decide +kernel
theorem dX8_now_126 : decode cX8_now 126 = .ok (.getfield 116, 3) := by decide +kernel
theorem dX8_now_129 : decode cX8_now 129 = .ok (.aload_n 0, 1) := by decide +kernel
theorem dX8_now_130 : decode cX8_now 130 = .ok (.getfield 52, 3) := by decide +kernel
theorem dX8_now_133 : decode cX8_now 133 = .ok (.getfield 102, 3) := by decide +kernel
theorem dX8_now_136 : decode cX8_now 136 = .ok (.invokestatic 112, 3) := by decide +kernel
theorem dX8_now_139 : decode cX8_now 139 = .ok (.ireturn, 1) := by decide +kernel
theorem dX8_now_140 : decode cX8_now 140 = .ok (.aload_n 0, 1) := by decide +kernel
theorem dX8_now_141 : decode cX8_now 141 = .ok (.getfield 35, 3) := by decide +kernel
theorem dX8_now_144 : decode cX8_now 144 = .ok (.getfield 119, 3) := by decide +kernel
theorem dX8_now_147 : decode cX8_now 147 = .ok (.ireturn, 1) := by decide +kernel
theorem dX8_now_148 : decode cX8_now 148 = .ok (.aload_n 0, 1) := by decide +kernel
theorem dX8_now_149 : decode cX8_now 149 = .ok (.invokevirtual 122, 3) := by decide +kernel
theorem dX8_now_152 : decode cX8_now 152 = .ok (.ireturn, 1) := by decide +kernel
theorem dX8_now_153 : decode cX8_now 153 = .ok (.aload_n 0, 1) := by decide +kernel
theorem dX8_now_154 : decode cX8_now 154 = .ok (.getfield 28, 3) := by decide +kernel
theorem dX8_now_157 : decode cX8_now 157 = .ok (.getfield 126, 3) := by decide +kernel
theorem dX8_now_160 : decode cX8_now 160 = .ok (.ireturn, 1) := by decide +kernel
theorem dX8_now_161 : decode cX8_now 161 = .ok (.aload_n 0, 1) := by decide +kernel
theorem dX8_now_162 : decode cX8_now 162 = .ok (.getfield 45, 3) := by decide +kernel
theorem dX8_now_165 : decode cX8_now 165 = .ok (.getfield 80, 3) := by decide +kernel
theorem dX8_now_168 : decode cX8_now 168 = .ok (.ireturn, 1) := by decide +kernel
theorem dX8_now_169 : decode cX8_now 169 = .ok (.aload_n 0, 1) := by decide +kernel
theorem dX8_now_170 : decode cX8_now 170 = .ok (.getfield 12, 3) := by decide +kernel
theorem dX8_now_173 : decode cX8_now 173 = .ok (.getfield 63, 3) := by decide +kernel
theorem dX8_now_176 : decode cX8_now 176 = .ok (.ireturn, 1) := by decide +kernel
theorem dX8_now_177 : decode cX8_now 177 = .ok (.iconst (-1), 1) := by decide +kernel
theorem dX8_now_178 : decode cX8_now 178 = .ok (.ireturn, 1) := by decide +kernel
theorem dX8_direct_0 : decode cX8_direct 0 = .ok (.iload_n 1, 1) := by decide +kernel
theorem dX8_direct_1 : decode cX8_direct 1 = .ok (.aload_n 0, 1) := by decide +kernel
theorem dX8_direct_2 : decode cX8_direct 2 = .ok (.getfield 52, 3) := by decide +kernel
theorem dX8_direct_5 : decode cX8_direct 5 = .ok (.getfield 96, 3) := by decide +kernel
theorem dX8_direct_8 : decode cX8_direct 8 = .ok (.invokestatic 129, 3) := by decide +kernel
theorem dX8_direct_11 : decode cX8_direct 11 = .ok (.ifCond .eq 17, 3) := by decide +kernel
theorem dX8_direct_14 : decode cX8_direct 14 = .ok (.iload_n 2, 1) := by decide +kernel
theorem dX8_direct_15 : decode cX8_direct 15 = .ok (.aload_n 0, 1) := by decide +kernel
theorem dX8_direct_16 : decode cX8_direct 16 = .ok (.getfield 52, 3) := by decide +kernel
theorem dX8_direct_19 : decode cX8_direct 19 = .ok (.getfield 96, 3) := by decide +kernel
theorem dX8_direct_22 : decode cX8_direct 22 = .ok (.invokestatic 129, 3) := by decide +kernel
theorem dX8_direct_25 : decode cX8_direct 25 = .ok (.ifCond .ne 5, 3) := by decide +kernel
theorem dX8_direct_28 : decode cX8_direct 28 = .ok (.iconst (-1), 1) := by decide +kernel
theorem dX8_direct_29 : decode cX8_direct 29 = .ok (.ireturn, 1) := by decide +kernel
theorem dX8_direct_30 : decode cX8_direct 30 = .ok (.aload_n 0, 1) := by decide +kernel
theorem dX8_direct_31 : decode cX8_direct 31 = .ok (.getfield 52, 3) := by decide +kernel
theorem dX8_direct_34 : decode cX8_direct 34 = .ok (.iload_n 1, 1) := by decide +kernel
theorem dX8_direct_35 : decode cX8_direct 35 = .ok (.iload_n 2, 1) := by decide +kernel
theorem dX8_direct_36 : decode cX8_direct 36 = .ok (.invokevirtual 133, 3) := by decide +kernel
theorem dX8_direct_39 : decode cX8_direct 39 = .ok (.ireturn, 1) := by decide +kernel
theorem dX8_truck_0 : decode cX8_truck 0 = .ok (.iload_n 1, 1) := by decide +kernel
theorem dX8_truck_1 : decode cX8_truck 1 = .ok (.aload_n 0, 1) := by decide +kernel
theorem dX8_truck_2 : decode cX8_truck 2 = .ok (.getfield 52, 3) := by decide +kernel
theorem dX8_truck_5 : decode cX8_truck 5 = .ok (.getfield 99, 3) := by decide +kernel
theorem dX8_truck_8 : decode cX8_truck 8 = .ok (.invokestatic 129, 3) := by decide +kernel
theorem dX8_truck_11 : decode cX8_truck 11 = .ok (.ifCond .ne 5, 3) := by decide +kernel
theorem dX8_truck_14 : decode cX8_truck 14 = .ok (.iconst (-1), 1) := by decide +kernel
theorem dX8_truck_15 : decode cX8_truck 15 = .ok (.ireturn, 1) := by decide +kernel
theorem dX8_truck_16 : decode cX8_truck 16 = .ok (.iload_n 2, 1) := by decide +kernel
theorem dX8_truck_17 : decode cX8_truck 17 = .ok (.tableswitch 127 0 7 #[47, 57, 67, 73, 86, 99, 108, 114], 47) := by decide +kernel
theorem dX8_truck_64 : decode cX8_truck 64 = .ok (.aload_n 0, 1) := by decide +kernel
theorem dX8_truck_65 : decode cX8_truck 65 = .ok (.getfield 52, 3) := by decide +kernel
theorem dX8_truck_68 : decode cX8_truck 68 = .ok (.getfield 137, 3) := by decide +kernel
theorem dX8_truck_71 : decode cX8_truck 71 = .ok (.iload_n 1, 1) := by decide +kernel
theorem dX8_truck_72 : decode cX8_truck 72 = .ok (.iaload, 1) := by decide +kernel
theorem dX8_truck_73 : decode cX8_truck 73 = .ok (.ireturn, 1) := by decide +kernel
theorem dX8_truck_74 : decode cX8_truck 74 = .ok (.aload_n 0, 1) := by decide +kernel
theorem dX8_truck_75 : decode cX8_truck 75 = .ok (.getfield 52, 3) := by decide +kernel
theorem dX8_truck_78 : decode cX8_truck 78 = .ok (.getfield 108, 3) := by decide +kernel
theorem dX8_truck_81 : decode cX8_truck 81 = .ok (.iload_n 1, 1) := by decide +kernel
theorem dX8_truck_82 : decode cX8_truck 82 = .ok (.iaload, 1) := by decide +kernel
theorem dX8_truck_83 : decode cX8_truck 83 = .ok (.ireturn, 1) := by decide +kernel
theorem dX8_truck_84 : decode cX8_truck 84 = .ok (.aload_n 0, 1) := by decide +kernel
theorem dX8_truck_85 : decode cX8_truck 85 = .ok (.iload_n 1, 1) := by decide +kernel
theorem dX8_truck_86 : decode cX8_truck 86 = .ok (.invokevirtual 140, 3) := by decide +kernel
theorem dX8_truck_89 : decode cX8_truck 89 = .ok (.ireturn, 1) := by decide +kernel
theorem dX8_truck_90 : decode cX8_truck 90 = .ok (.aload_n 0, 1) := by decide +kernel
theorem dX8_truck_91 : decode cX8_truck 91 = .ok (.iload_n 1, 1) := by decide +kernel
theorem dX8_truck_92 : decode cX8_truck 92 = .ok (.aload_n 0, 1) := by decide +kernel
theorem dX8_truck_93 : decode cX8_truck 93 = .ok (.getfield 28, 3) := by decide +kernel
theorem dX8_truck_96 : decode cX8_truck 96 = .ok (.getfield 144, 3) := by decide +kernel
theorem dX8_truck_99 : decode cX8_truck 99 = .ok (.invokevirtual 147, 3) := by decide +kernel
theorem dX8_truck_102 : decode cX8_truck 102 = .ok (.ireturn, 1) := by decide +kernel
theorem dX8_truck_103 : decode cX8_truck 103 = .ok (.aload_n 0, 1) := by decide +kernel
theorem dX8_truck_104 : decode cX8_truck 104 = .ok (.iload_n 1, 1) := by decide +kernel
theorem dX8_truck_105 : decode cX8_truck 105 = .ok (.aload_n 0, 1) := by decide +kernel
theorem dX8_truck_106 : decode cX8_truck 106 = .ok (.getfield 28, 3) := by decide +kernel
theorem dX8_truck_109 : decode cX8_truck 109 = .ok (.getfield 151, 3) := by decide +kernel
theorem dX8_truck_112 : decode cX8_truck 112 = .ok (.invokevirtual 147, 3) := by decide +kernel
theorem dX8_truck_115 : decode cX8_truck 115 = .ok (.ireturn, 1) := by decide +kernel
theorem dX8_truck_116 : decode cX8_truck 116 = .ok (.aload_n 0, 1) := by decide +kernel
theorem dX8_truck_117 : decode cX8_truck 117 = .ok (.getfield 52, 3) := by decide +kernel
theorem dX8_truck_120 : decode cX8_truck 120 = .ok (.iload_n 1, 1) := by decide +kernel
theorem dX8_truck_121 : decode cX8_truck 121 = .ok (.invokevirtual 154, 3) := by decide +kernel
theorem dX8_truck_124 : decode cX8_truck 124 = .ok (.ireturn, 1) := by decide +kernel
theorem dX8_truck_125 : decode cX8_truck 125 = .ok (.aload_n 0, 1) := by decide +kernel
theorem dX8_truck_126 : decode cX8_truck 126 = .ok (.iload_n 1, 1) := by decide +kernel
theorem dX8_truck_127 : decode cX8_truck 127 = .ok (.invokevirtual 157, 3) := by decide +kernel
theorem dX8_truck_130 : decode cX8_truck 130 = .ok (.ireturn, 1) := by decide +kernel
theorem dX8_truck_131 : decode cX8_truck 131 = .ok (.aload_n 0, 1) := by decide +kernel
theorem dX8_truck_132 : decode cX8_truck 132 = .ok (.iload_n 1, 1) := by decide +kernel
theorem dX8_truck_133 : decode cX8_truck 133 = .ok (.aload_n 0, 1) := by decide +kernel
theorem dX8_truck_134 : decode cX8_truck 134 = .ok (.getfield 35, 3) := by decide +kernel
theorem dX8_truck_137 : decode cX8_truck 137 = .ok (.getfield 160, 3) := by decide +kernel
theorem dX8_truck_140 : decode cX8_truck 140 = .ok (.invokevirtual 147, 3) := by decide +kernel
theorem dX8_truck_143 : decode cX8_truck 143 = .ok (.ireturn, 1) := by decide +kernel
theorem dX8_truck_144 : decode cX8_truck 144 = .ok (.iconst (-1), 1) := by decide +kernel
theorem dX8_truck_145 : decode cX8_truck 145 = .ok (.ireturn, 1) := by decide +kernel
theorem dX8_load_0 : decode cX8_load 0 = .ok (.iload_n 1, 1) := by decide +kernel
theorem dX8_load_1 : decode cX8_load 1 = .ok (.aload_n 0, 1) := by decide +kernel
theorem dX8_load_2 : decode cX8_load 2 = .ok (.getfield 52, 3) := by decide +kernel
theorem dX8_load_5 : decode cX8_load 5 = .ok (.getfield 102, 3) := by decide +kernel
theorem dX8_load_8 : decode cX8_load 8 = .ok (.invokestatic 129, 3) := by decide +kernel
theorem dX8_load_11 : decode cX8_load 11 = .ok (.ifCond .ne 13, 3) := by decide +kernel
theorem dX8_load_14 : decode cX8_load 14 = .ok (.new 163, 3) := by decide +kernel
theorem dX8_load_17 : decode cX8_load 17 = .ok (.dup, 1) := by decide +kernel
theorem dX8_load_18 : decode cX8_load 18 = .ok (.ldc 165, 2) := by decide +kernel
theorem dX8_load_20 : decode cX8_load 20 = .ok (.invokespecial 167, 3) := by decide +kernel
theorem dX8_load_23 : decode cX8_load 23 = .ok (.athrow, 1) := by decide +kernel
theorem dX8_load_24 : decode cX8_load 24 = .ok (.iload_n 2, 1) := by decide +kernel
theorem dX8_load_25 : decode cX8_load 25 = .ok (.tableswitch 159 0 9 #[55, 65, 75, 85, 111, 117, 123, 133, 139, 149], 55) := by decide +kernel
theorem dX8_load_80 : decode cX8_load 80 = .ok (.aload_n 0, 1) := by decide +kernel
theorem dX8_load_81 : decode cX8_load 81 = .ok (.getfield 52, 3) := by decide +kernel
theorem dX8_load_84 : decode cX8_load 84 = .ok (.getfield 170, 3) := by decide +kernel
theorem dX8_load_87 : decode cX8_load 87 = .ok (.iload_n 1, 1) := by decide +kernel
theorem dX8_load_88 : decode cX8_load 88 = .ok (.iaload, 1) := by decide +kernel
theorem dX8_load_89 : decode cX8_load 89 = .ok (.ireturn, 1) := by decide +kernel
theorem dX8_load_90 : decode cX8_load 90 = .ok (.aload_n 0, 1) := by decide +kernel
theorem dX8_load_91 : decode cX8_load 91 = .ok (.getfield 52, 3) := by decide +kernel
theorem dX8_load_94 : decode cX8_load 94 = .ok (.getfield 173, 3) := by decide +kernel
theorem dX8_load_97 : decode cX8_load 97 = .ok (.iload_n 1, 1) := by decide +kernel
theorem dX8_load_98 : decode cX8_load 98 = .ok (.iaload, 1) := by decide +kernel
theorem dX8_load_99 : decode cX8_load 99 = .ok (.ireturn, 1) := by decide +kernel
theorem dX8_load_100 : decode cX8_load 100 = .ok (.aload_n 0, 1) := by decide +kernel
theorem dX8_load_101 : decode cX8_load 101 = .ok (.getfield 52, 3) := by decide +kernel
theorem dX8_load_104 : decode cX8_load 104 = .ok (.getfield 176, 3) := by decide +kernel
theorem dX8_load_107 : decode cX8_load 107 = .ok (.iload_n 1, 1) := by decide +kernel
theorem dX8_load_108 : decode cX8_load 108 = .ok (.iaload, 1) := by decide +kernel
theorem dX8_load_109 : decode cX8_load 109 = .ok (.ireturn, 1) := by decide +kernel
theorem dX8_load_110 : decode cX8_load 110 = .ok (.aload_n 0, 1) := by decide +kernel
theorem dX8_load_111 : decode cX8_load 111 = .ok (.getfield 52, 3) := by decide +kernel
theorem dX8_load_114 : decode cX8_load 114 = .ok (.aload_n 0, 1) := by decide +kernel
theorem dX8_load_115 : decode cX8_load 115 = .ok (.getfield 52, 3) := by decide +kernel
theorem dX8_load_118 : decode cX8_load 118 = .ok (.getfield 173, 3) := by decide +kernel
theorem dX8_load_121 : decode cX8_load 121 = .ok (.iload_n 1, 1) := by decide +kernel
theorem dX8_load_122 : decode cX8_load 122 = .ok (.iaload, 1) := by decide +kernel
theorem dX8_load_123 : decode cX8_load 123 = .ok (.aload_n 0, 1) := by decide +kernel
theorem dX8_load_124 : decode cX8_load 124 = .ok (.getfield 52, 3) := by decide +kernel
theorem dX8_load_127 : decode cX8_load 127 = .ok (.getfield 176, 3) := by decide +kernel
theorem dX8_load_130 : decode cX8_load 130 = .ok (.iload_n 1, 1) := by decide +kernel
theorem dX8_load_131 : decode cX8_load 131 = .ok (.iaload, 1) := by decide +kernel
theorem dX8_load_132 : decode cX8_load 132 = .ok (.invokevirtual 133, 3) := by decide +kernel
theorem dX8_load_135 : decode cX8_load 135 = .ok (.ireturn, 1) := by decide +kernel
theorem dX8_load_136 : decode cX8_load 136 = .ok (.aload_n 0, 1) := by decide +kernel
theorem dX8_load_137 : decode cX8_load 137 = .ok (.iload_n 1, 1) := by decide +kernel
theorem dX8_load_138 : decode cX8_load 138 = .ok (.invokevirtual 179, 3) := by decide +kernel
theorem dX8_load_141 : decode cX8_load 141 = .ok (.ireturn, 1) := by decide +kernel
theorem dX8_load_142 : decode cX8_load 142 = .ok (.aload_n 0, 1) := by decide +kernel
theorem dX8_load_143 : decode cX8_load 143 = .ok (.iload_n 1, 1) := by decide +kernel
theorem dX8_load_144 : decode cX8_load 144 = .ok (.invokevirtual 182, 3) := by decide +kernel
theorem dX8_load_147 : decode cX8_load 147 = .ok (.ireturn, 1) := by decide +kernel
theorem dX8_load_148 : decode cX8_load 148 = .ok (.aload_n 0, 1) := by decide +kernel
theorem dX8_load_149 : decode cX8_load 149 = .ok (.getfield 35, 3) := by decide +kernel
theorem dX8_load_152 : decode cX8_load 152 = .ok (.getfield 116, 3) := by decide +kernel
theorem dX8_load_155 : decode cX8_load 155 = .ok (.iload_n 1, 1) := by decide +kernel
theorem dX8_load_156 : decode cX8_load 156 = .ok (.iaload, 1) := by decide +kernel
theorem dX8_load_157 : decode cX8_load 157 = .ok (.ireturn, 1) := by decide +kernel
theorem dX8_load_158 : decode cX8_load 158 = .ok (.aload_n 0, 1) := by decide +kernel
theorem dX8_load_159 : decode cX8_load 159 = .ok (.iload_n 1, 1) := by decide +kernel
theorem dX8_load_160 : decode cX8_load 160 = .ok (.invokevirtual 185, 3) := by decide +kernel
theorem dX8_load_163 : decode cX8_load 163 = .ok (.ireturn, 1) := by decide +kernel
theorem dX8_load_164 : decode cX8_load 164 = .ok (.aload_n 0, 1) := by decide +kernel
theorem dX8_load_165 : decode cX8_load 165 = .ok (.getfield 28, 3) := by decide +kernel
theorem dX8_load_168 : decode cX8_load 168 = .ok (.getfield 188, 3) := by decide +kernel
theorem dX8_load_171 : decode cX8_load 171 = .ok (.iload_n 1, 1) := by decide +kernel
theorem dX8_load_172 : decode cX8_load 172 = .ok (.iaload, 1) := by decide +kernel
theorem dX8_load_173 : decode cX8_load 173 = .ok (.ireturn, 1) := by decide +kernel
theorem dX8_load_174 : decode cX8_load 174 = .ok (.aload_n 0, 1) := by decide +kernel
theorem dX8_load_175 : decode cX8_load 175 = .ok (.getfield 28, 3) := by decide +kernel
theorem dX8_load_178 : decode cX8_load 178 = .ok (.getfield 191, 3) := by decide +kernel
theorem dX8_load_181 : decode cX8_load 181 = .ok (.iload_n 1, 1) := by decide +kernel
theorem dX8_load_182 : decode cX8_load 182 = .ok (.iaload, 1) := by decide +kernel
theorem dX8_load_183 : decode cX8_load 183 = .ok (.ireturn, 1) := by decide +kernel
theorem dX8_load_184 : decode cX8_load 184 = .ok (.new 163, 3) := by decide +kernel
theorem dX8_load_187 : decode cX8_load 187 = .ok (.dup, 1) := by decide +kernel
theorem dX8_load_188 : decode cX8_load 188 = .ok (.ldc 194, 2) := by decide +kernel
theorem dX8_load_190 : decode cX8_load 190 = .ok (.invokespecial 167, 3) := by decide +kernel
theorem dX8_load_193 : decode cX8_load 193 = .ok (.athrow, 1) := by decide +kernel
theorem dX8_trip_0 : decode cX8_trip 0 = .ok (.iload_n 1, 1) := by decide +kernel
theorem dX8_trip_1 : decode cX8_trip 1 = .ok (.aload_n 0, 1) := by decide +kernel
theorem dX8_trip_2 : decode cX8_trip 2 = .ok (.getfield 52, 3) := by decide +kernel
theorem dX8_trip_5 : decode cX8_trip 5 = .ok (.getfield 105, 3) := by decide +kernel
theorem dX8_trip_8 : decode cX8_trip 8 = .ok (.invokestatic 129, 3) := by decide +kernel
theorem dX8_trip_11 : decode cX8_trip 11 = .ok (.ifCond .ne 13, 3) := by decide +kernel
theorem dX8_trip_14 : decode cX8_trip 14 = .ok (.new 163, 3) := by decide +kernel
theorem dX8_trip_17 : decode cX8_trip 17 = .ok (.dup, 1) := by decide +kernel
theorem dX8_trip_18 : decode cX8_trip 18 = .ok (.ldc 196, 2) := by decide +kernel
theorem dX8_trip_20 : decode cX8_trip 20 = .ok (.invokespecial 167, 3) := by decide +kernel
theorem dX8_trip_23 : decode cX8_trip 23 = .ok (.athrow, 1) := by decide +kernel
theorem dX8_trip_24 : decode cX8_trip 24 = .ok (.iload_n 2, 1) := by decide +kernel
theorem dX8_trip_25 : decode cX8_trip 25 = .ok (.tableswitch 183 0 11 #[63, 73, 83, 93, 103, 113, 123, 133, 143, 153, 163, 173], 63) := by decide +kernel
theorem dX8_trip_88 : decode cX8_trip 88 = .ok (.aload_n 0, 1) := by decide +kernel
theorem dX8_trip_89 : decode cX8_trip 89 = .ok (.getfield 52, 3) := by decide +kernel
theorem dX8_trip_92 : decode cX8_trip 92 = .ok (.getfield 198, 3) := by decide +kernel
theorem dX8_trip_95 : decode cX8_trip 95 = .ok (.iload_n 1, 1) := by decide +kernel
theorem dX8_trip_96 : decode cX8_trip 96 = .ok (.iaload, 1) := by decide +kernel
theorem dX8_trip_97 : decode cX8_trip 97 = .ok (.ireturn, 1) := by decide +kernel
theorem dX8_trip_98 : decode cX8_trip 98 = .ok (.aload_n 0, 1) := by decide +kernel
theorem dX8_trip_99 : decode cX8_trip 99 = .ok (.getfield 52, 3) := by decide +kernel
theorem dX8_trip_102 : decode cX8_trip 102 = .ok (.getfield 201, 3) := by decide +kernel
theorem dX8_trip_105 : decode cX8_trip 105 = .ok (.iload_n 1, 1) := by decide +kernel
theorem dX8_trip_106 : decode cX8_trip 106 = .ok (.iaload, 1) := by decide +kernel
theorem dX8_trip_107 : decode cX8_trip 107 = .ok (.ireturn, 1) := by decide +kernel
theorem dX8_trip_108 : decode cX8_trip 108 = .ok (.aload_n 0, 1) := by decide +kernel
theorem dX8_trip_109 : decode cX8_trip 109 = .ok (.getfield 28, 3) := by decide +kernel
theorem dX8_trip_112 : decode cX8_trip 112 = .ok (.getfield 144, 3) := by decide +kernel
theorem dX8_trip_115 : decode cX8_trip 115 = .ok (.iload_n 1, 1) := by decide +kernel
theorem dX8_trip_116 : decode cX8_trip 116 = .ok (.iaload, 1) := by decide +kernel
theorem dX8_trip_117 : decode cX8_trip 117 = .ok (.ireturn, 1) := by decide +kernel
theorem dX8_trip_118 : decode cX8_trip 118 = .ok (.aload_n 0, 1) := by decide +kernel
theorem dX8_trip_119 : decode cX8_trip 119 = .ok (.getfield 28, 3) := by decide +kernel
theorem dX8_trip_122 : decode cX8_trip 122 = .ok (.getfield 151, 3) := by decide +kernel
theorem dX8_trip_125 : decode cX8_trip 125 = .ok (.iload_n 1, 1) := by decide +kernel
theorem dX8_trip_126 : decode cX8_trip 126 = .ok (.iaload, 1) := by decide +kernel
theorem dX8_trip_127 : decode cX8_trip 127 = .ok (.ireturn, 1) := by decide +kernel
theorem dX8_trip_128 : decode cX8_trip 128 = .ok (.aload_n 0, 1) := by decide +kernel
theorem dX8_trip_129 : decode cX8_trip 129 = .ok (.getfield 28, 3) := by decide +kernel
theorem dX8_trip_132 : decode cX8_trip 132 = .ok (.getfield 204, 3) := by decide +kernel
theorem dX8_trip_135 : decode cX8_trip 135 = .ok (.iload_n 1, 1) := by decide +kernel
theorem dX8_trip_136 : decode cX8_trip 136 = .ok (.iaload, 1) := by decide +kernel
theorem dX8_trip_137 : decode cX8_trip 137 = .ok (.ireturn, 1) := by decide +kernel
theorem dX8_trip_138 : decode cX8_trip 138 = .ok (.aload_n 0, 1) := by decide +kernel
theorem dX8_trip_139 : decode cX8_trip 139 = .ok (.getfield 35, 3) := by decide +kernel
theorem dX8_trip_142 : decode cX8_trip 142 = .ok (.getfield 207, 3) := by decide +kernel
theorem dX8_trip_145 : decode cX8_trip 145 = .ok (.iload_n 1, 1) := by decide +kernel
theorem dX8_trip_146 : decode cX8_trip 146 = .ok (.iaload, 1) := by decide +kernel
theorem dX8_trip_147 : decode cX8_trip 147 = .ok (.ireturn, 1) := by decide +kernel
theorem dX8_trip_148 : decode cX8_trip 148 = .ok (.aload_n 0, 1) := by decide +kernel
theorem dX8_trip_149 : decode cX8_trip 149 = .ok (.getfield 35, 3) := by decide +kernel
theorem dX8_trip_152 : decode cX8_trip 152 = .ok (.getfield 160, 3) := by decide +kernel
theorem dX8_trip_155 : decode cX8_trip 155 = .ok (.iload_n 1, 1) := by decide +kernel
theorem dX8_trip_156 : decode cX8_trip 156 = .ok (.iaload, 1) := by decide +kernel
theorem dX8_trip_157 : decode cX8_trip 157 = .ok (.ireturn, 1) := by decide +kernel
theorem dX8_trip_158 : decode cX8_trip 158 = .ok (.aload_n 0, 1) := by decide +kernel
theorem dX8_trip_159 : decode cX8_trip 159 = .ok (.getfield 35, 3) := by decide +kernel
theorem dX8_trip_162 : decode cX8_trip 162 = .ok (.getfield 210, 3) := by decide +kernel
theorem dX8_trip_165 : decode cX8_trip 165 = .ok (.iload_n 1, 1) := by decide +kernel
theorem dX8_trip_166 : decode cX8_trip 166 = .ok (.iaload, 1) := by decide +kernel
theorem dX8_trip_167 : decode cX8_trip 167 = .ok (.ireturn, 1) := by decide +kernel
theorem dX8_trip_168 : decode cX8_trip 168 = .ok (.aload_n 0, 1) := by decide +kernel
theorem dX8_trip_169 : decode cX8_trip 169 = .ok (.getfield 35, 3) := by decide +kernel
theorem dX8_trip_172 : decode cX8_trip 172 = .ok (.getfield 213, 3) := by decide +kernel
theorem dX8_trip_175 : decode cX8_trip 175 = .ok (.iload_n 1, 1) := by decide +kernel
theorem dX8_trip_176 : decode cX8_trip 176 = .ok (.iaload, 1) := by decide +kernel
theorem dX8_trip_177 : decode cX8_trip 177 = .ok (.ireturn, 1) := by decide +kernel
theorem dX8_trip_178 : decode cX8_trip 178 = .ok (.aload_n 0, 1) := by decide +kernel
theorem dX8_trip_179 : decode cX8_trip 179 = .ok (.getfield 35, 3) := by decide +kernel
theorem dX8_trip_182 : decode cX8_trip 182 = .ok (.getfield 216, 3) := by decide +kernel
theorem dX8_trip_185 : decode cX8_trip 185 = .ok (.iload_n 1, 1) := by decide +kernel
theorem dX8_trip_186 : decode cX8_trip 186 = .ok (.iaload, 1) := by decide +kernel
theorem dX8_trip_187 : decode cX8_trip 187 = .ok (.ireturn, 1) := by decide +kernel
theorem dX8_trip_188 : decode cX8_trip 188 = .ok (.aload_n 0, 1) := by decide +kernel
theorem dX8_trip_189 : decode cX8_trip 189 = .ok (.getfield 52, 3) := by decide +kernel
theorem dX8_trip_192 : decode cX8_trip 192 = .ok (.getfield 219, 3) := by decide +kernel
theorem dX8_trip_195 : decode cX8_trip 195 = .ok (.iload_n 1, 1) := by decide +kernel
theorem dX8_trip_196 : decode cX8_trip 196 = .ok (.iaload, 1) := by decide +kernel
theorem dX8_trip_197 : decode cX8_trip 197 = .ok (.ireturn, 1) := by decide +kernel
theorem dX8_trip_198 : decode cX8_trip 198 = .ok (.aload_n 0, 1) := by decide +kernel
theorem dX8_trip_199 : decode cX8_trip 199 = .ok (.getfield 28, 3) := by decide +kernel
theorem dX8_trip_202 : decode cX8_trip 202 = .ok (.getfield 222, 3) := by decide +kernel
theorem dX8_trip_205 : decode cX8_trip 205 = .ok (.iload_n 1, 1) := by decide +kernel
theorem dX8_trip_206 : decode cX8_trip 206 = .ok (.iaload, 1) := by decide +kernel
theorem dX8_trip_207 : decode cX8_trip 207 = .ok (.ireturn, 1) := by decide +kernel
theorem dX8_trip_208 : decode cX8_trip 208 = .ok (.new 163, 3) := by decide +kernel
theorem dX8_trip_211 : decode cX8_trip 211 = .ok (.dup, 1) := by decide +kernel
theorem dX8_trip_212 : decode cX8_trip 212 = .ok (.ldc 225, 2) := by decide +kernel
theorem dX8_trip_214 : decode cX8_trip 214 = .ok (.invokespecial 167, 3) := by decide +kernel
theorem dX8_trip_217 : decode cX8_trip 217 = .ok (.athrow, 1) := by decide +kernel
theorem dX8_share_0 : decode cX8_share 0 = .ok (.iload_n 2, 1) := by decide +kernel
theorem dX8_share_1 : decode cX8_share 1 = .ok (.aload_n 0, 1) := by decide +kernel
theorem dX8_share_2 : decode cX8_share 2 = .ok (.getfield 52, 3) := by decide +kernel
theorem dX8_share_5 : decode cX8_share 5 = .ok (.getfield 102, 3) := by decide +kernel
theorem dX8_share_8 : decode cX8_share 8 = .ok (.invokestatic 129, 3) := by decide +kernel
theorem dX8_share_11 : decode cX8_share 11 = .ok (.ifCond .ne 5, 3) := by decide +kernel
theorem dX8_share_14 : decode cX8_share 14 = .ok (.iconst (-1), 1) := by decide +kernel
theorem dX8_share_15 : decode cX8_share 15 = .ok (.ireturn, 1) := by decide +kernel
theorem dX8_share_16 : decode cX8_share 16 = .ok (.iload_n 1, 1) := by decide +kernel
theorem dX8_share_17 : decode cX8_share 17 = .ok (.iconst (-1), 1) := by decide +kernel
theorem dX8_share_18 : decode cX8_share 18 = .ok (.if_icmp .ne 13, 3) := by decide +kernel
theorem dX8_share_21 : decode cX8_share 21 = .ok (.aload_n 0, 1) := by decide +kernel
theorem dX8_share_22 : decode cX8_share 22 = .ok (.getfield 35, 3) := by decide +kernel
theorem dX8_share_25 : decode cX8_share 25 = .ok (.getfield 227, 3) := by decide +kernel
theorem dX8_share_28 : decode cX8_share 28 = .ok (.iload_n 2, 1) := by decide +kernel
theorem dX8_share_29 : decode cX8_share 29 = .ok (.iaload, 1) := by decide +kernel
theorem dX8_share_30 : decode cX8_share 30 = .ok (.ireturn, 1) := by decide +kernel
theorem dX8_share_31 : decode cX8_share 31 = .ok (.iload_n 1, 1) := by decide +kernel
theorem dX8_share_32 : decode cX8_share 32 = .ok (.aload_n 0, 1) := by decide +kernel
theorem dX8_share_33 : decode cX8_share 33 = .ok (.getfield 52, 3) := by decide +kernel
theorem dX8_share_36 : decode cX8_share 36 = .ok (.getfield 105, 3) := by decide +kernel
theorem dX8_share_39 : decode cX8_share 39 = .ok (.invokestatic 129, 3) := by decide +kernel
theorem dX8_share_42 : decode cX8_share 42 = .ok (.ifCond .ne 5, 3) := by decide +kernel
theorem dX8_share_45 : decode cX8_share 45 = .ok (.iconst (-1), 1) := by decide +kernel
theorem dX8_share_46 : decode cX8_share 46 = .ok (.ireturn, 1) := by decide +kernel
theorem dX8_share_47 : decode cX8_share 47 = .ok (.aload_n 0, 1) := by decide +kernel
theorem dX8_share_48 : decode cX8_share 48 = .ok (.getfield 35, 3) := by decide +kernel
theorem dX8_share_51 : decode cX8_share 51 = .ok (.getfield 230, 3) := by decide +kernel
theorem dX8_share_54 : decode cX8_share 54 = .ok (.iload_n 1, 1) := by decide +kernel
theorem dX8_share_55 : decode cX8_share 55 = .ok (.aaload, 1) := by decide +kernel
theorem dX8_share_56 : decode cX8_share 56 = .ok (.iload_n 2, 1) := by decide +kernel
theorem dX8_share_57 : decode cX8_share 57 = .ok (.iaload, 1) := by decide +kernel
theorem dX8_share_58 : decode cX8_share 58 = .ok (.ireturn, 1) := by decide +kernel
theorem dX8_gap_0 : decode cX8_gap 0 = .ok (.iload_n 1, 1) := by decide +kernel
theorem dX8_gap_1 : decode cX8_gap 1 = .ok (.aload_n 0, 1) := by decide +kernel
theorem dX8_gap_2 : decode cX8_gap 2 = .ok (.getfield 28, 3) := by decide +kernel
theorem dX8_gap_5 : decode cX8_gap 5 = .ok (.getfield 126, 3) := by decide +kernel
theorem dX8_gap_8 : decode cX8_gap 8 = .ok (.invokestatic 129, 3) := by decide +kernel
theorem dX8_gap_11 : decode cX8_gap 11 = .ok (.ifCond .ne 5, 3) := by decide +kernel
theorem dX8_gap_14 : decode cX8_gap 14 = .ok (.iconst (-1), 1) := by decide +kernel
theorem dX8_gap_15 : decode cX8_gap 15 = .ok (.ireturn, 1) := by decide +kernel
theorem dX8_gap_16 : decode cX8_gap 16 = .ok (.iload_n 2, 1) := by decide +kernel
theorem dX8_gap_17 : decode cX8_gap 17 = .ok (.tableswitch 57 0 2 #[27, 37, 47], 27) := by decide +kernel
theorem dX8_gap_44 : decode cX8_gap 44 = .ok (.aload_n 0, 1) := by decide +kernel
theorem dX8_gap_45 : decode cX8_gap 45 = .ok (.getfield 28, 3) := by decide +kernel
theorem dX8_gap_48 : decode cX8_gap 48 = .ok (.getfield 234, 3) := by decide +kernel
theorem dX8_gap_51 : decode cX8_gap 51 = .ok (.iload_n 1, 1) := by decide +kernel
theorem dX8_gap_52 : decode cX8_gap 52 = .ok (.iaload, 1) := by decide +kernel
theorem dX8_gap_53 : decode cX8_gap 53 = .ok (.ireturn, 1) := by decide +kernel
theorem dX8_gap_54 : decode cX8_gap 54 = .ok (.aload_n 0, 1) := by decide +kernel
theorem dX8_gap_55 : decode cX8_gap 55 = .ok (.getfield 28, 3) := by decide +kernel
theorem dX8_gap_58 : decode cX8_gap 58 = .ok (.getfield 237, 3) := by decide +kernel
theorem dX8_gap_61 : decode cX8_gap 61 = .ok (.iload_n 1, 1) := by decide +kernel
theorem dX8_gap_62 : decode cX8_gap 62 = .ok (.iaload, 1) := by decide +kernel
theorem dX8_gap_63 : decode cX8_gap 63 = .ok (.ireturn, 1) := by decide +kernel
theorem dX8_gap_64 : decode cX8_gap 64 = .ok (.aload_n 0, 1) := by decide +kernel
theorem dX8_gap_65 : decode cX8_gap 65 = .ok (.getfield 28, 3) := by decide +kernel
theorem dX8_gap_68 : decode cX8_gap 68 = .ok (.getfield 240, 3) := by decide +kernel
theorem dX8_gap_71 : decode cX8_gap 71 = .ok (.iload_n 1, 1) := by decide +kernel
theorem dX8_gap_72 : decode cX8_gap 72 = .ok (.iaload, 1) := by decide +kernel
theorem dX8_gap_73 : decode cX8_gap 73 = .ok (.ireturn, 1) := by decide +kernel
theorem dX8_gap_74 : decode cX8_gap 74 = .ok (.iconst (-1), 1) := by decide +kernel
theorem dX8_gap_75 : decode cX8_gap 75 = .ok (.ireturn, 1) := by decide +kernel
theorem dX8_way_0 : decode cX8_way 0 = .ok (.iload_n 1, 1) := by decide +kernel
theorem dX8_way_1 : decode cX8_way 1 = .ok (.aload_n 0, 1) := by decide +kernel
theorem dX8_way_2 : decode cX8_way 2 = .ok (.getfield 52, 3) := by decide +kernel
theorem dX8_way_5 : decode cX8_way 5 = .ok (.getfield 96, 3) := by decide +kernel
theorem dX8_way_8 : decode cX8_way 8 = .ok (.invokestatic 129, 3) := by decide +kernel
theorem dX8_way_11 : decode cX8_way 11 = .ok (.ifCond .eq 22, 3) := by decide +kernel
theorem dX8_way_14 : decode cX8_way 14 = .ok (.iload_n 2, 1) := by decide +kernel
theorem dX8_way_15 : decode cX8_way 15 = .ok (.aload_n 0, 1) := by decide +kernel
theorem dX8_way_16 : decode cX8_way 16 = .ok (.getfield 52, 3) := by decide +kernel
theorem dX8_way_19 : decode cX8_way 19 = .ok (.getfield 96, 3) := by decide +kernel
theorem dX8_way_22 : decode cX8_way 22 = .ok (.invokestatic 129, 3) := by decide +kernel
theorem dX8_way_25 : decode cX8_way 25 = .ok (.ifCond .eq 8, 3) := by decide +kernel
theorem dX8_way_28 : decode cX8_way 28 = .ok (.iload_n 1, 1) := by decide +kernel
theorem dX8_way_29 : decode cX8_way 29 = .ok (.iload_n 2, 1) := by decide +kernel
theorem dX8_way_30 : decode cX8_way 30 = .ok (.if_icmp .ne 5, 3) := by decide +kernel
theorem dX8_way_33 : decode cX8_way 33 = .ok (.iconst (-1), 1) := by decide +kernel
theorem dX8_way_34 : decode cX8_way 34 = .ok (.ireturn, 1) := by decide +kernel
theorem dX8_way_35 : decode cX8_way 35 = .ok (.aload_n 0, 1) := by decide +kernel
theorem dX8_way_36 : decode cX8_way 36 = .ok (.getfield 28, 3) := by decide +kernel
theorem dX8_way_39 : decode cX8_way 39 = .ok (.getfield 243, 3) := by decide +kernel
theorem dX8_way_42 : decode cX8_way 42 = .ok (.iload_n 1, 1) := by decide +kernel
theorem dX8_way_43 : decode cX8_way 43 = .ok (.aaload, 1) := by decide +kernel
theorem dX8_way_44 : decode cX8_way 44 = .ok (.iload_n 2, 1) := by decide +kernel
theorem dX8_way_45 : decode cX8_way 45 = .ok (.iaload, 1) := by decide +kernel
theorem dX8_way_46 : decode cX8_way 46 = .ok (.ireturn, 1) := by decide +kernel
theorem dX8_busiest_0 : decode cX8_busiest 0 = .ok (.iconst (-1), 1) := by decide +kernel
theorem dX8_busiest_1 : decode cX8_busiest 1 = .ok (.istore_n 1, 1) := by decide +kernel
theorem dX8_busiest_2 : decode cX8_busiest 2 = .ok (.iconst 0, 1) := by decide +kernel
theorem dX8_busiest_3 : decode cX8_busiest 3 = .ok (.istore_n 2, 1) := by decide +kernel
theorem dX8_busiest_4 : decode cX8_busiest 4 = .ok (.iconst 0, 1) := by decide +kernel
theorem dX8_busiest_5 : decode cX8_busiest 5 = .ok (.istore_n 3, 1) := by decide +kernel
theorem dX8_busiest_6 : decode cX8_busiest 6 = .ok (.iload_n 3, 1) := by decide +kernel
theorem dX8_busiest_7 : decode cX8_busiest 7 = .ok (.aload_n 0, 1) := by decide +kernel
theorem dX8_busiest_8 : decode cX8_busiest 8 = .ok (.getfield 52, 3) := by decide +kernel
theorem dX8_busiest_11 : decode cX8_busiest 11 = .ok (.getfield 96, 3) := by decide +kernel
theorem dX8_busiest_14 : decode cX8_busiest 14 = .ok (.if_icmp .ge 73, 3) := by decide +kernel
theorem dX8_busiest_17 : decode cX8_busiest 17 = .ok (.iconst 0, 1) := by decide +kernel
theorem dX8_busiest_18 : decode cX8_busiest 18 = .ok (.istore 4, 2) := by decide +kernel
theorem dX8_busiest_20 : decode cX8_busiest 20 = .ok (.iload 4, 2) := by decide +kernel
theorem dX8_busiest_22 : decode cX8_busiest 22 = .ok (.aload_n 0, 1) := by decide +kernel
theorem dX8_busiest_23 : decode cX8_busiest 23 = .ok (.getfield 52, 3) := by decide +kernel
theorem dX8_busiest_26 : decode cX8_busiest 26 = .ok (.getfield 96, 3) := by decide +kernel
theorem dX8_busiest_29 : decode cX8_busiest 29 = .ok (.if_icmp .ge 52, 3) := by decide +kernel
theorem dX8_busiest_32 : decode cX8_busiest 32 = .ok (.iload_n 3, 1) := by decide +kernel
theorem dX8_busiest_33 : decode cX8_busiest 33 = .ok (.iload 4, 2) := by decide +kernel
theorem dX8_busiest_35 : decode cX8_busiest 35 = .ok (.if_icmp .eq 40, 3) := by decide +kernel
theorem dX8_busiest_38 : decode cX8_busiest 38 = .ok (.aload_n 0, 1) := by decide +kernel
theorem dX8_busiest_39 : decode cX8_busiest 39 = .ok (.getfield 28, 3) := by decide +kernel
theorem dX8_busiest_42 : decode cX8_busiest 42 = .ok (.getfield 243, 3) := by decide +kernel
theorem dX8_busiest_45 : decode cX8_busiest 45 = .ok (.iload_n 3, 1) := by decide +kernel
theorem dX8_busiest_46 : decode cX8_busiest 46 = .ok (.aaload, 1) := by decide +kernel
theorem dX8_busiest_47 : decode cX8_busiest 47 = .ok (.iload 4, 2) := by decide +kernel
theorem dX8_busiest_49 : decode cX8_busiest 49 = .ok (.iaload, 1) := by decide +kernel
theorem dX8_busiest_50 : decode cX8_busiest 50 = .ok (.iload_n 2, 1) := by decide +kernel
theorem dX8_busiest_51 : decode cX8_busiest 51 = .ok (.if_icmp .le 24, 3) := by decide +kernel
theorem dX8_busiest_54 : decode cX8_busiest 54 = .ok (.aload_n 0, 1) := by decide +kernel
theorem dX8_busiest_55 : decode cX8_busiest 55 = .ok (.getfield 28, 3) := by decide +kernel
theorem dX8_busiest_58 : decode cX8_busiest 58 = .ok (.getfield 243, 3) := by decide +kernel
theorem dX8_busiest_61 : decode cX8_busiest 61 = .ok (.iload_n 3, 1) := by decide +kernel
theorem dX8_busiest_62 : decode cX8_busiest 62 = .ok (.aaload, 1) := by decide +kernel
theorem dX8_busiest_63 : decode cX8_busiest 63 = .ok (.iload 4, 2) := by decide +kernel
theorem dX8_busiest_65 : decode cX8_busiest 65 = .ok (.iaload, 1) := by decide +kernel
theorem dX8_busiest_66 : decode cX8_busiest 66 = .ok (.istore_n 2, 1) := by decide +kernel
theorem dX8_busiest_67 : decode cX8_busiest 67 = .ok (.bipush 100, 2) := by decide +kernel
theorem dX8_busiest_69 : decode cX8_busiest 69 = .ok (.iload_n 3, 1) := by decide +kernel
theorem dX8_busiest_70 : decode cX8_busiest 70 = .ok (.imul, 1) := by decide +kernel
theorem dX8_busiest_71 : decode cX8_busiest 71 = .ok (.iload 4, 2) := by decide +kernel
theorem dX8_busiest_73 : decode cX8_busiest 73 = .ok (.iadd, 1) := by decide +kernel
theorem dX8_busiest_74 : decode cX8_busiest 74 = .ok (.istore_n 1, 1) := by decide +kernel
theorem dX8_busiest_75 : decode cX8_busiest 75 = .ok (.iinc 4 1, 3) := by decide +kernel
theorem dX8_busiest_78 : decode cX8_busiest 78 = .ok (.goto (-58), 3) := by decide +kernel
theorem dX8_busiest_81 : decode cX8_busiest 81 = .ok (.iinc 3 1, 3) := by decide +kernel
theorem dX8_busiest_84 : decode cX8_busiest 84 = .ok (.goto (-78), 3) := by decide +kernel
theorem dX8_busiest_87 : decode cX8_busiest 87 = .ok (.iload_n 1, 1) := by decide +kernel
theorem dX8_busiest_88 : decode cX8_busiest 88 = .ok (.ireturn, 1) := by decide +kernel
theorem dX8_hub_0 : decode cX8_hub 0 = .ok (.iload_n 1, 1) := by decide +kernel
theorem dX8_hub_1 : decode cX8_hub 1 = .ok (.aload_n 0, 1) := by decide +kernel
theorem dX8_hub_2 : decode cX8_hub 2 = .ok (.getfield 52, 3) := by decide +kernel
theorem dX8_hub_5 : decode cX8_hub 5 = .ok (.getfield 96, 3) := by decide +kernel
theorem dX8_hub_8 : decode cX8_hub 8 = .ok (.invokestatic 129, 3) := by decide +kernel
theorem dX8_hub_11 : decode cX8_hub 11 = .ok (.ifCond .ne 5, 3) := by decide +kernel
theorem dX8_hub_14 : decode cX8_hub 14 = .ok (.iconst (-1), 1) := by decide +kernel
theorem dX8_hub_15 : decode cX8_hub 15 = .ok (.ireturn, 1) := by decide +kernel
theorem dX8_hub_16 : decode cX8_hub 16 = .ok (.iconst 0, 1) := by decide +kernel
theorem dX8_hub_17 : decode cX8_hub 17 = .ok (.istore_n 2, 1) := by decide +kernel
theorem dX8_hub_18 : decode cX8_hub 18 = .ok (.iconst 0, 1) := by decide +kernel
theorem dX8_hub_19 : decode cX8_hub 19 = .ok (.istore_n 3, 1) := by decide +kernel
theorem dX8_hub_20 : decode cX8_hub 20 = .ok (.iload_n 3, 1) := by decide +kernel
theorem dX8_hub_21 : decode cX8_hub 21 = .ok (.aload_n 0, 1) := by decide +kernel
theorem dX8_hub_22 : decode cX8_hub 22 = .ok (.getfield 52, 3) := by decide +kernel
theorem dX8_hub_25 : decode cX8_hub 25 = .ok (.getfield 102, 3) := by decide +kernel
theorem dX8_hub_28 : decode cX8_hub 28 = .ok (.if_icmp .ge 33, 3) := by decide +kernel
theorem dX8_hub_31 : decode cX8_hub 31 = .ok (.iload_n 2, 1) := by decide +kernel
theorem dX8_hub_32 : decode cX8_hub 32 = .ok (.aload_n 0, 1) := by decide +kernel
theorem dX8_hub_33 : decode cX8_hub 33 = .ok (.getfield 52, 3) := by decide +kernel
theorem dX8_hub_36 : decode cX8_hub 36 = .ok (.getfield 170, 3) := by decide +kernel
theorem dX8_hub_39 : decode cX8_hub 39 = .ok (.iload_n 3, 1) := by decide +kernel
theorem dX8_hub_40 : decode cX8_hub 40 = .ok (.iaload, 1) := by decide +kernel
theorem dX8_hub_41 : decode cX8_hub 41 = .ok (.aload_n 0, 1) := by decide +kernel
theorem dX8_hub_42 : decode cX8_hub 42 = .ok (.getfield 28, 3) := by decide +kernel
theorem dX8_hub_45 : decode cX8_hub 45 = .ok (.getfield 246, 3) := by decide +kernel
theorem dX8_hub_48 : decode cX8_hub 48 = .ok (.iload_n 3, 1) := by decide +kernel
theorem dX8_hub_49 : decode cX8_hub 49 = .ok (.aaload, 1) := by decide +kernel
theorem dX8_hub_50 : decode cX8_hub 50 = .ok (.iload_n 1, 1) := by decide +kernel
theorem dX8_hub_51 : decode cX8_hub 51 = .ok (.iaload, 1) := by decide +kernel
theorem dX8_hub_52 : decode cX8_hub 52 = .ok (.imul, 1) := by decide +kernel
theorem dX8_hub_53 : decode cX8_hub 53 = .ok (.iadd, 1) := by decide +kernel
theorem dX8_hub_54 : decode cX8_hub 54 = .ok (.istore_n 2, 1) := by decide +kernel
theorem dX8_hub_55 : decode cX8_hub 55 = .ok (.iinc 3 1, 3) := by decide +kernel
theorem dX8_hub_58 : decode cX8_hub 58 = .ok (.goto (-38), 3) := by decide +kernel
theorem dX8_hub_61 : decode cX8_hub 61 = .ok (.iload_n 2, 1) := by decide +kernel
theorem dX8_hub_62 : decode cX8_hub 62 = .ok (.ireturn, 1) := by decide +kernel
theorem dX8_dearest_0 : decode cX8_dearest 0 = .ok (.iconst (-1), 1) := by decide +kernel
theorem dX8_dearest_1 : decode cX8_dearest 1 = .ok (.istore_n 1, 1) := by decide +kernel
theorem dX8_dearest_2 : decode cX8_dearest 2 = .ok (.iconst 0, 1) := by decide +kernel
theorem dX8_dearest_3 : decode cX8_dearest 3 = .ok (.istore_n 2, 1) := by decide +kernel
theorem dX8_dearest_4 : decode cX8_dearest 4 = .ok (.iload_n 2, 1) := by decide +kernel
theorem dX8_dearest_5 : decode cX8_dearest 5 = .ok (.aload_n 0, 1) := by decide +kernel
theorem dX8_dearest_6 : decode cX8_dearest 6 = .ok (.getfield 52, 3) := by decide +kernel
theorem dX8_dearest_9 : decode cX8_dearest 9 = .ok (.getfield 105, 3) := by decide +kernel
theorem dX8_dearest_12 : decode cX8_dearest 12 = .ok (.if_icmp .ge 39, 3) := by decide +kernel
theorem dX8_dearest_15 : decode cX8_dearest 15 = .ok (.aload_n 0, 1) := by decide +kernel
theorem dX8_dearest_16 : decode cX8_dearest 16 = .ok (.getfield 35, 3) := by decide +kernel
theorem dX8_dearest_19 : decode cX8_dearest 19 = .ok (.iload_n 2, 1) := by decide +kernel
theorem dX8_dearest_20 : decode cX8_dearest 20 = .ok (.invokevirtual 249, 3) := by decide +kernel
theorem dX8_dearest_23 : decode cX8_dearest 23 = .ok (.ifCond .eq 6, 3) := by decide +kernel
theorem dX8_dearest_26 : decode cX8_dearest 26 = .ok (.goto 19, 3) := by decide +kernel
theorem dX8_dearest_29 : decode cX8_dearest 29 = .ok (.iload_n 1, 1) := by decide +kernel
theorem dX8_dearest_30 : decode cX8_dearest 30 = .ok (.iconst (-1), 1) := by decide +kernel
theorem dX8_dearest_31 : decode cX8_dearest 31 = .ok (.if_icmp .eq 12, 3) := by decide +kernel
theorem dX8_dearest_34 : decode cX8_dearest 34 = .ok (.aload_n 0, 1) := by decide +kernel
theorem dX8_dearest_35 : decode cX8_dearest 35 = .ok (.iload_n 2, 1) := by decide +kernel
theorem dX8_dearest_36 : decode cX8_dearest 36 = .ok (.iload_n 1, 1) := by decide +kernel
theorem dX8_dearest_37 : decode cX8_dearest 37 = .ok (.invokevirtual 253, 3) := by decide +kernel
theorem dX8_dearest_40 : decode cX8_dearest 40 = .ok (.ifCond .eq 5, 3) := by decide +kernel
theorem dX8_dearest_43 : decode cX8_dearest 43 = .ok (.iload_n 2, 1) := by decide +kernel
theorem dX8_dearest_44 : decode cX8_dearest 44 = .ok (.istore_n 1, 1) := by decide +kernel
theorem dX8_dearest_45 : decode cX8_dearest 45 = .ok (.iinc 2 1, 3) := by decide +kernel
theorem dX8_dearest_48 : decode cX8_dearest 48 = .ok (.goto (-44), 3) := by decide +kernel
theorem dX8_dearest_51 : decode cX8_dearest 51 = .ok (.iload_n 1, 1) := by decide +kernel
theorem dX8_dearest_52 : decode cX8_dearest 52 = .ok (.ireturn, 1) := by decide +kernel
theorem dX8_split_0 : decode cX8_split 0 = .ok (.iload_n 1, 1) := by decide +kernel
theorem dX8_split_1 : decode cX8_split 1 = .ok (.aload_n 0, 1) := by decide +kernel
theorem dX8_split_2 : decode cX8_split 2 = .ok (.getfield 52, 3) := by decide +kernel
theorem dX8_split_5 : decode cX8_split 5 = .ok (.getfield 102, 3) := by decide +kernel
theorem dX8_split_8 : decode cX8_split 8 = .ok (.invokestatic 129, 3) := by decide +kernel
theorem dX8_split_11 : decode cX8_split 11 = .ok (.ifCond .eq 15, 3) := by decide +kernel
theorem dX8_split_14 : decode cX8_split 14 = .ok (.aload_n 0, 1) := by decide +kernel
theorem dX8_split_15 : decode cX8_split 15 = .ok (.getfield 52, 3) := by decide +kernel
theorem dX8_split_18 : decode cX8_split 18 = .ok (.getfield 102, 3) := by decide +kernel
theorem dX8_split_21 : decode cX8_split 21 = .ok (.bipush 16, 2) := by decide +kernel
theorem dX8_split_23 : decode cX8_split 23 = .ok (.if_icmp .lt 5, 3) := by decide +kernel
theorem dX8_split_26 : decode cX8_split 26 = .ok (.iconst (-1), 1) := by decide +kernel
theorem dX8_split_27 : decode cX8_split 27 = .ok (.ireturn, 1) := by decide +kernel
theorem dX8_split_28 : decode cX8_split 28 = .ok (.iload_n 2, 1) := by decide +kernel
theorem dX8_split_29 : decode cX8_split 29 = .ok (.iconst 1, 1) := by decide +kernel
theorem dX8_split_30 : decode cX8_split 30 = .ok (.if_icmp .lt 25, 3) := by decide +kernel
theorem dX8_split_33 : decode cX8_split 33 = .ok (.iload_n 2, 1) := by decide +kernel
theorem dX8_split_34 : decode cX8_split 34 = .ok (.aload_n 0, 1) := by decide +kernel
theorem dX8_split_35 : decode cX8_split 35 = .ok (.getfield 52, 3) := by decide +kernel
theorem dX8_split_38 : decode cX8_split 38 = .ok (.getfield 170, 3) := by decide +kernel
theorem dX8_split_41 : decode cX8_split 41 = .ok (.iload_n 1, 1) := by decide +kernel
theorem dX8_split_42 : decode cX8_split 42 = .ok (.iaload, 1) := by decide +kernel
theorem dX8_split_43 : decode cX8_split 43 = .ok (.if_icmp .ge 12, 3) := by decide +kernel
theorem dX8_split_46 : decode cX8_split 46 = .ok (.iload_n 3, 1) := by decide +kernel
theorem dX8_split_47 : decode cX8_split 47 = .ok (.ifCond .lt 8, 3) := by decide +kernel
theorem dX8_split_50 : decode cX8_split 50 = .ok (.iload_n 3, 1) := by decide +kernel
theorem dX8_split_51 : decode cX8_split 51 = .ok (.iconst 1, 1) := by decide +kernel
theorem dX8_split_52 : decode cX8_split 52 = .ok (.if_icmp .le 5, 3) := by decide +kernel
theorem dX8_split_55 : decode cX8_split 55 = .ok (.iconst (-1), 1) := by decide +kernel
theorem dX8_split_56 : decode cX8_split 56 = .ok (.ireturn, 1) := by decide +kernel
theorem dX8_split_57 : decode cX8_split 57 = .ok (.aload_n 0, 1) := by decide +kernel
theorem dX8_split_58 : decode cX8_split 58 = .ok (.getfield 52, 3) := by decide +kernel
theorem dX8_split_61 : decode cX8_split 61 = .ok (.getfield 102, 3) := by decide +kernel
theorem dX8_split_64 : decode cX8_split 64 = .ok (.istore 4, 2) := by decide +kernel
theorem dX8_split_66 : decode cX8_split 66 = .ok (.aload_n 0, 1) := by decide +kernel
theorem dX8_split_67 : decode cX8_split 67 = .ok (.getfield 39, 3) := by decide +kernel
theorem dX8_split_70 : decode cX8_split 70 = .ok (.aload_n 0, 1) := by decide +kernel
theorem dX8_split_71 : decode cX8_split 71 = .ok (.getfield 52, 3) := by decide +kernel
theorem dX8_split_74 : decode cX8_split 74 = .ok (.invokevirtual 256, 3) := by decide +kernel
theorem dX8_split_77 : decode cX8_split 77 = .ok (.aload_n 0, 1) := by decide +kernel
theorem dX8_split_78 : decode cX8_split 78 = .ok (.getfield 39, 3) := by decide +kernel
theorem dX8_split_81 : decode cX8_split 81 = .ok (.iload_n 1, 1) := by decide +kernel
theorem dX8_split_82 : decode cX8_split 82 = .ok (.iload_n 2, 1) := by decide +kernel
theorem dX8_split_83 : decode cX8_split 83 = .ok (.invokevirtual 259, 3) := by decide +kernel
theorem dX8_split_86 : decode cX8_split 86 = .ok (.aload_n 0, 1) := by decide +kernel
theorem dX8_split_87 : decode cX8_split 87 = .ok (.getfield 39, 3) := by decide +kernel
theorem dX8_split_90 : decode cX8_split 90 = .ok (.aload_n 0, 1) := by decide +kernel
theorem dX8_split_91 : decode cX8_split 91 = .ok (.getfield 52, 3) := by decide +kernel
theorem dX8_split_94 : decode cX8_split 94 = .ok (.aload_n 0, 1) := by decide +kernel
theorem dX8_split_95 : decode cX8_split 95 = .ok (.getfield 28, 3) := by decide +kernel
theorem dX8_split_98 : decode cX8_split 98 = .ok (.invokevirtual 263, 3) := by decide +kernel
theorem dX8_split_101 : decode cX8_split 101 = .ok (.iload_n 3, 1) := by decide +kernel
theorem dX8_split_102 : decode cX8_split 102 = .ok (.iconst 1, 1) := by decide +kernel
theorem dX8_split_103 : decode cX8_split 103 = .ok (.if_icmp .ne 15, 3) := by decide +kernel
theorem dX8_split_106 : decode cX8_split 106 = .ok (.aload_n 0, 1) := by decide +kernel
theorem dX8_split_107 : decode cX8_split 107 = .ok (.getfield 39, 3) := by decide +kernel
theorem dX8_split_110 : decode cX8_split 110 = .ok (.getfield 116, 3) := by decide +kernel
theorem dX8_split_113 : decode cX8_split 113 = .ok (.iload_n 1, 1) := by decide +kernel
theorem dX8_split_114 : decode cX8_split 114 = .ok (.iaload, 1) := by decide +kernel
theorem dX8_split_115 : decode cX8_split 115 = .ok (.goto 23, 3) := by decide +kernel
theorem dX8_split_118 : decode cX8_split 118 = .ok (.aload_n 0, 1) := by decide +kernel
theorem dX8_split_119 : decode cX8_split 119 = .ok (.getfield 39, 3) := by decide +kernel
theorem dX8_split_122 : decode cX8_split 122 = .ok (.getfield 116, 3) := by decide +kernel
theorem dX8_split_125 : decode cX8_split 125 = .ok (.iload_n 1, 1) := by decide +kernel
theorem dX8_split_126 : decode cX8_split 126 = .ok (.iaload, 1) := by decide +kernel
theorem dX8_split_127 : decode cX8_split 127 = .ok (.aload_n 0, 1) := by decide +kernel
theorem dX8_split_128 : decode cX8_split 128 = .ok (.getfield 39, 3) := by decide +kernel
theorem dX8_split_131 : decode cX8_split 131 = .ok (.getfield 116, 3) := by decide +kernel
theorem dX8_split_134 : decode cX8_split 134 = .ok (.iload 4, 2) := by decide +kernel
theorem dX8_split_136 : decode cX8_split 136 = .ok (.iaload, 1) := by decide +kernel
theorem dX8_split_137 : decode cX8_split 137 = .ok (.iadd, 1) := by decide +kernel
theorem dX8_split_138 : decode cX8_split 138 = .ok (.ireturn, 1) := by decide +kernel
theorem dX8_without_0 : decode cX8_without 0 = .ok (.iload_n 1, 1) := by decide +kernel
theorem dX8_without_1 : decode cX8_without 1 = .ok (.aload_n 0, 1) := by decide +kernel
theorem dX8_without_2 : decode cX8_without 2 = .ok (.getfield 52, 3) := by decide +kernel
theorem dX8_without_5 : decode cX8_without 5 = .ok (.getfield 102, 3) := by decide +kernel
theorem dX8_without_8 : decode cX8_without 8 = .ok (.invokestatic 129, 3) := by decide +kernel
theorem dX8_without_11 : decode cX8_without 11 = .ok (.ifCond .eq 22, 3) := by decide +kernel
theorem dX8_without_14 : decode cX8_without 14 = .ok (.iload_n 2, 1) := by decide +kernel
theorem dX8_without_15 : decode cX8_without 15 = .ok (.aload_n 0, 1) := by decide +kernel
theorem dX8_without_16 : decode cX8_without 16 = .ok (.getfield 52, 3) := by decide +kernel
theorem dX8_without_19 : decode cX8_without 19 = .ok (.getfield 102, 3) := by decide +kernel
theorem dX8_without_22 : decode cX8_without 22 = .ok (.invokestatic 129, 3) := by decide +kernel
theorem dX8_without_25 : decode cX8_without 25 = .ok (.ifCond .eq 8, 3) := by decide +kernel
theorem dX8_without_28 : decode cX8_without 28 = .ok (.iload_n 1, 1) := by decide +kernel
theorem dX8_without_29 : decode cX8_without 29 = .ok (.iload_n 2, 1) := by decide +kernel
theorem dX8_without_30 : decode cX8_without 30 = .ok (.if_icmp .ne 5, 3) := by decide +kernel
theorem dX8_without_33 : decode cX8_without 33 = .ok (.iconst (-1), 1) := by decide +kernel
theorem dX8_without_34 : decode cX8_without 34 = .ok (.ireturn, 1) := by decide +kernel
theorem dX8_without_35 : decode cX8_without 35 = .ok (.aload_n 0, 1) := by decide +kernel
theorem dX8_without_36 : decode cX8_without 36 = .ok (.getfield 39, 3) := by decide +kernel
theorem dX8_without_39 : decode cX8_without 39 = .ok (.aload_n 0, 1) := by decide +kernel
theorem dX8_without_40 : decode cX8_without 40 = .ok (.getfield 52, 3) := by decide +kernel
theorem dX8_without_43 : decode cX8_without 43 = .ok (.invokevirtual 256, 3) := by decide +kernel
theorem dX8_without_46 : decode cX8_without 46 = .ok (.aload_n 0, 1) := by decide +kernel
theorem dX8_without_47 : decode cX8_without 47 = .ok (.getfield 39, 3) := by decide +kernel
theorem dX8_without_50 : decode cX8_without 50 = .ok (.getfield 266, 3) := by decide +kernel
theorem dX8_without_53 : decode cX8_without 53 = .ok (.iload_n 1, 1) := by decide +kernel
theorem dX8_without_54 : decode cX8_without 54 = .ok (.iconst 0, 1) := by decide +kernel
theorem dX8_without_55 : decode cX8_without 55 = .ok (.iastore, 1) := by decide +kernel
theorem dX8_without_56 : decode cX8_without 56 = .ok (.aload_n 0, 1) := by decide +kernel
theorem dX8_without_57 : decode cX8_without 57 = .ok (.getfield 39, 3) := by decide +kernel
theorem dX8_without_60 : decode cX8_without 60 = .ok (.aload_n 0, 1) := by decide +kernel
theorem dX8_without_61 : decode cX8_without 61 = .ok (.getfield 52, 3) := by decide +kernel
theorem dX8_without_64 : decode cX8_without 64 = .ok (.aload_n 0, 1) := by decide +kernel
theorem dX8_without_65 : decode cX8_without 65 = .ok (.getfield 28, 3) := by decide +kernel
theorem dX8_without_68 : decode cX8_without 68 = .ok (.invokevirtual 263, 3) := by decide +kernel
theorem dX8_without_71 : decode cX8_without 71 = .ok (.aload_n 0, 1) := by decide +kernel
theorem dX8_without_72 : decode cX8_without 72 = .ok (.getfield 39, 3) := by decide +kernel
theorem dX8_without_75 : decode cX8_without 75 = .ok (.getfield 116, 3) := by decide +kernel
theorem dX8_without_78 : decode cX8_without 78 = .ok (.iload_n 2, 1) := by decide +kernel
theorem dX8_without_79 : decode cX8_without 79 = .ok (.iaload, 1) := by decide +kernel
theorem dX8_without_80 : decode cX8_without 80 = .ok (.ireturn, 1) := by decide +kernel
theorem dX8_fuel_0 : decode cX8_fuel 0 = .ok (.iload_n 1, 1) := by decide +kernel
theorem dX8_fuel_1 : decode cX8_fuel 1 = .ok (.aload_n 0, 1) := by decide +kernel
theorem dX8_fuel_2 : decode cX8_fuel 2 = .ok (.getfield 52, 3) := by decide +kernel
theorem dX8_fuel_5 : decode cX8_fuel 5 = .ok (.getfield 105, 3) := by decide +kernel
theorem dX8_fuel_8 : decode cX8_fuel 8 = .ok (.invokestatic 129, 3) := by decide +kernel
theorem dX8_fuel_11 : decode cX8_fuel 11 = .ok (.ifCond .eq 15, 3) := by decide +kernel
theorem dX8_fuel_14 : decode cX8_fuel 14 = .ok (.iload_n 2, 1) := by decide +kernel
theorem dX8_fuel_15 : decode cX8_fuel 15 = .ok (.iconst (-1), 1) := by decide +kernel
theorem dX8_fuel_16 : decode cX8_fuel 16 = .ok (.if_icmp .lt 10, 3) := by decide +kernel
theorem dX8_fuel_19 : decode cX8_fuel 19 = .ok (.iload_n 2, 1) := by decide +kernel
theorem dX8_fuel_20 : decode cX8_fuel 20 = .ok (.sipush 9999, 3) := by decide +kernel
theorem dX8_fuel_23 : decode cX8_fuel 23 = .ok (.if_icmp .le 6, 3) := by decide +kernel
theorem dX8_fuel_26 : decode cX8_fuel 26 = .ok (.bipush (-2), 2) := by decide +kernel
theorem dX8_fuel_28 : decode cX8_fuel 28 = .ok (.ireturn, 1) := by decide +kernel
theorem dX8_fuel_29 : decode cX8_fuel 29 = .ok (.aload_n 0, 1) := by decide +kernel
theorem dX8_fuel_30 : decode cX8_fuel 30 = .ok (.iconst 0, 1) := by decide +kernel
theorem dX8_fuel_31 : decode cX8_fuel 31 = .ok (.aload_n 0, 1) := by decide +kernel
theorem dX8_fuel_32 : decode cX8_fuel 32 = .ok (.getfield 52, 3) := by decide +kernel
theorem dX8_fuel_35 : decode cX8_fuel 35 = .ok (.getfield 201, 3) := by decide +kernel
theorem dX8_fuel_38 : decode cX8_fuel 38 = .ok (.iload_n 1, 1) := by decide +kernel
theorem dX8_fuel_39 : decode cX8_fuel 39 = .ok (.iload_n 2, 1) := by decide +kernel
theorem dX8_fuel_40 : decode cX8_fuel 40 = .ok (.invokevirtual 267, 3) := by decide +kernel
theorem dX8_fuel_43 : decode cX8_fuel 43 = .ok (.ireturn, 1) := by decide +kernel
theorem dX8_buy_0 : decode cX8_buy 0 = .ok (.iload_n 1, 1) := by decide +kernel
theorem dX8_buy_1 : decode cX8_buy 1 = .ok (.aload_n 0, 1) := by decide +kernel
theorem dX8_buy_2 : decode cX8_buy 2 = .ok (.getfield 52, 3) := by decide +kernel
theorem dX8_buy_5 : decode cX8_buy 5 = .ok (.getfield 99, 3) := by decide +kernel
theorem dX8_buy_8 : decode cX8_buy 8 = .ok (.invokestatic 129, 3) := by decide +kernel
theorem dX8_buy_11 : decode cX8_buy 11 = .ok (.ifCond .eq 14, 3) := by decide +kernel
theorem dX8_buy_14 : decode cX8_buy 14 = .ok (.iload_n 2, 1) := by decide +kernel
theorem dX8_buy_15 : decode cX8_buy 15 = .ok (.ifCond .lt 10, 3) := by decide +kernel
theorem dX8_buy_18 : decode cX8_buy 18 = .ok (.iload_n 2, 1) := by decide +kernel
theorem dX8_buy_19 : decode cX8_buy 19 = .ok (.sipush 9999, 3) := by decide +kernel
theorem dX8_buy_22 : decode cX8_buy 22 = .ok (.if_icmp .le 6, 3) := by decide +kernel
theorem dX8_buy_25 : decode cX8_buy 25 = .ok (.bipush (-2), 2) := by decide +kernel
theorem dX8_buy_27 : decode cX8_buy 27 = .ok (.ireturn, 1) := by decide +kernel
theorem dX8_buy_28 : decode cX8_buy 28 = .ok (.aload_n 0, 1) := by decide +kernel
theorem dX8_buy_29 : decode cX8_buy 29 = .ok (.iconst 1, 1) := by decide +kernel
theorem dX8_buy_30 : decode cX8_buy 30 = .ok (.aload_n 0, 1) := by decide +kernel
theorem dX8_buy_31 : decode cX8_buy 31 = .ok (.getfield 52, 3) := by decide +kernel
theorem dX8_buy_34 : decode cX8_buy 34 = .ok (.getfield 108, 3) := by decide +kernel
theorem dX8_buy_37 : decode cX8_buy 37 = .ok (.iload_n 1, 1) := by decide +kernel
theorem dX8_buy_38 : decode cX8_buy 38 = .ok (.iload_n 2, 1) := by decide +kernel
theorem dX8_buy_39 : decode cX8_buy 39 = .ok (.invokevirtual 267, 3) := by decide +kernel
theorem dX8_buy_42 : decode cX8_buy 42 = .ok (.ireturn, 1) := by decide +kernel
theorem dX8_weigh_0 : decode cX8_weigh 0 = .ok (.iload_n 1, 1) := by decide +kernel
theorem dX8_weigh_1 : decode cX8_weigh 1 = .ok (.aload_n 0, 1) := by decide +kernel
theorem dX8_weigh_2 : decode cX8_weigh 2 = .ok (.getfield 52, 3) := by decide +kernel
theorem dX8_weigh_5 : decode cX8_weigh 5 = .ok (.getfield 102, 3) := by decide +kernel
theorem dX8_weigh_8 : decode cX8_weigh 8 = .ok (.invokestatic 129, 3) := by decide +kernel
theorem dX8_weigh_11 : decode cX8_weigh 11 = .ok (.ifCond .eq 14, 3) := by decide +kernel
theorem dX8_weigh_14 : decode cX8_weigh 14 = .ok (.iload_n 2, 1) := by decide +kernel
theorem dX8_weigh_15 : decode cX8_weigh 15 = .ok (.iconst 1, 1) := by decide +kernel
theorem dX8_weigh_16 : decode cX8_weigh 16 = .ok (.if_icmp .lt 9, 3) := by decide +kernel
theorem dX8_weigh_19 : decode cX8_weigh 19 = .ok (.iload_n 2, 1) := by decide +kernel
theorem dX8_weigh_20 : decode cX8_weigh 20 = .ok (.bipush 99, 2) := by decide +kernel
theorem dX8_weigh_22 : decode cX8_weigh 22 = .ok (.if_icmp .le 6, 3) := by decide +kernel
theorem dX8_weigh_25 : decode cX8_weigh 25 = .ok (.bipush (-2), 2) := by decide +kernel
theorem dX8_weigh_27 : decode cX8_weigh 27 = .ok (.ireturn, 1) := by decide +kernel
theorem dX8_weigh_28 : decode cX8_weigh 28 = .ok (.aload_n 0, 1) := by decide +kernel
theorem dX8_weigh_29 : decode cX8_weigh 29 = .ok (.iconst 2, 1) := by decide +kernel
theorem dX8_weigh_30 : decode cX8_weigh 30 = .ok (.aload_n 0, 1) := by decide +kernel
theorem dX8_weigh_31 : decode cX8_weigh 31 = .ok (.getfield 52, 3) := by decide +kernel
theorem dX8_weigh_34 : decode cX8_weigh 34 = .ok (.getfield 170, 3) := by decide +kernel
theorem dX8_weigh_37 : decode cX8_weigh 37 = .ok (.iload_n 1, 1) := by decide +kernel
theorem dX8_weigh_38 : decode cX8_weigh 38 = .ok (.iload_n 2, 1) := by decide +kernel
theorem dX8_weigh_39 : decode cX8_weigh 39 = .ok (.invokevirtual 267, 3) := by decide +kernel
theorem dX8_weigh_42 : decode cX8_weigh 42 = .ok (.ireturn, 1) := by decide +kernel
theorem dX8_undo_0 : decode cX8_undo 0 = .ok (.aload_n 0, 1) := by decide +kernel
theorem dX8_undo_1 : decode cX8_undo 1 = .ok (.getfield 45, 3) := by decide +kernel
theorem dX8_undo_4 : decode cX8_undo 4 = .ok (.getfield 80, 3) := by decide +kernel
theorem dX8_undo_7 : decode cX8_undo 7 = .ok (.ifCond .gt 5, 3) := by decide +kernel
theorem dX8_undo_10 : decode cX8_undo 10 = .ok (.iconst (-1), 1) := by decide +kernel
theorem dX8_undo_11 : decode cX8_undo 11 = .ok (.ireturn, 1) := by decide +kernel
theorem dX8_undo_12 : decode cX8_undo 12 = .ok (.aload_n 0, 1) := by decide +kernel
theorem dX8_undo_13 : decode cX8_undo 13 = .ok (.getfield 45, 3) := by decide +kernel
theorem dX8_undo_16 : decode cX8_undo 16 = .ok (.dup, 1) := by decide +kernel
theorem dX8_undo_17 : decode cX8_undo 17 = .ok (.getfield 80, 3) := by decide +kernel
theorem dX8_undo_20 : decode cX8_undo 20 = .ok (.iconst 1, 1) := by decide +kernel
theorem dX8_undo_21 : decode cX8_undo 21 = .ok (.isub, 1) := by decide +kernel
theorem dX8_undo_22 : decode cX8_undo 22 = .ok (.putfield 80, 3) := by decide +kernel
theorem dX8_undo_25 : decode cX8_undo 25 = .ok (.aload_n 0, 1) := by decide +kernel
theorem dX8_undo_26 : decode cX8_undo 26 = .ok (.aload_n 0, 1) := by decide +kernel
theorem dX8_undo_27 : decode cX8_undo 27 = .ok (.getfield 45, 3) := by decide +kernel
theorem dX8_undo_30 : decode cX8_undo 30 = .ok (.getfield 271, 3) := by decide +kernel
theorem dX8_undo_33 : decode cX8_undo 33 = .ok (.aload_n 0, 1) := by decide +kernel
theorem dX8_undo_34 : decode cX8_undo 34 = .ok (.getfield 45, 3) := by decide +kernel
theorem dX8_undo_37 : decode cX8_undo 37 = .ok (.getfield 80, 3) := by decide +kernel
theorem dX8_undo_40 : decode cX8_undo 40 = .ok (.iaload, 1) := by decide +kernel
theorem dX8_undo_41 : decode cX8_undo 41 = .ok (.invokevirtual 274, 3) := by decide +kernel
theorem dX8_undo_44 : decode cX8_undo 44 = .ok (.astore_n 1, 1) := by decide +kernel
theorem dX8_undo_45 : decode cX8_undo 45 = .ok (.aload_n 1, 1) := by decide +kernel
theorem dX8_undo_46 : decode cX8_undo 46 = .ok (.aload_n 0, 1) := by decide +kernel
theorem dX8_undo_47 : decode cX8_undo 47 = .ok (.getfield 45, 3) := by decide +kernel
theorem dX8_undo_50 : decode cX8_undo 50 = .ok (.getfield 278, 3) := by decide +kernel
theorem dX8_undo_53 : decode cX8_undo 53 = .ok (.aload_n 0, 1) := by decide +kernel
theorem dX8_undo_54 : decode cX8_undo 54 = .ok (.getfield 45, 3) := by decide +kernel
theorem dX8_undo_57 : decode cX8_undo 57 = .ok (.getfield 80, 3) := by decide +kernel
theorem dX8_undo_60 : decode cX8_undo 60 = .ok (.iaload, 1) := by decide +kernel
theorem dX8_undo_61 : decode cX8_undo 61 = .ok (.aload_n 0, 1) := by decide +kernel
theorem dX8_undo_62 : decode cX8_undo 62 = .ok (.getfield 45, 3) := by decide +kernel
theorem dX8_undo_65 : decode cX8_undo 65 = .ok (.getfield 281, 3) := by decide +kernel
theorem dX8_undo_68 : decode cX8_undo 68 = .ok (.aload_n 0, 1) := by decide +kernel
theorem dX8_undo_69 : decode cX8_undo 69 = .ok (.getfield 45, 3) := by decide +kernel
theorem dX8_undo_72 : decode cX8_undo 72 = .ok (.getfield 80, 3) := by decide +kernel
theorem dX8_undo_75 : decode cX8_undo 75 = .ok (.iaload, 1) := by decide +kernel
theorem dX8_undo_76 : decode cX8_undo 76 = .ok (.iastore, 1) := by decide +kernel
theorem dX8_undo_77 : decode cX8_undo 77 = .ok (.aload_n 0, 1) := by decide +kernel
theorem dX8_undo_78 : decode cX8_undo 78 = .ok (.invokevirtual 87, 3) := by decide +kernel
theorem dX8_undo_81 : decode cX8_undo 81 = .ok (.aload_n 0, 1) := by decide +kernel
theorem dX8_undo_82 : decode cX8_undo 82 = .ok (.getfield 45, 3) := by decide +kernel
theorem dX8_undo_85 : decode cX8_undo 85 = .ok (.getfield 80, 3) := by decide +kernel
theorem dX8_undo_88 : decode cX8_undo 88 = .ok (.ireturn, 1) := by decide +kernel
theorem dX8_isIn_0 : decode cX8_isIn 0 = .ok (.iload_n 0, 1) := by decide +kernel
theorem dX8_isIn_1 : decode cX8_isIn 1 = .ok (.ifCond .lt 12, 3) := by decide +kernel
theorem dX8_isIn_4 : decode cX8_isIn 4 = .ok (.iload_n 0, 1) := by decide +kernel
theorem dX8_isIn_5 : decode cX8_isIn 5 = .ok (.iload_n 1, 1) := by decide +kernel
theorem dX8_isIn_6 : decode cX8_isIn 6 = .ok (.if_icmp .ge 7, 3) := by decide +kernel
theorem dX8_isIn_9 : decode cX8_isIn 9 = .ok (.iconst 1, 1) := by decide +kernel
theorem dX8_isIn_10 : decode cX8_isIn 10 = .ok (.goto 4, 3) := by decide +kernel
theorem dX8_isIn_13 : decode cX8_isIn 13 = .ok (.iconst 0, 1) := by decide +kernel
theorem dX8_isIn_14 : decode cX8_isIn 14 = .ok (.ireturn, 1) := by decide +kernel
theorem dX8_sumOf_0 : decode cX8_sumOf 0 = .ok (.iconst 0, 1) := by decide +kernel
theorem dX8_sumOf_1 : decode cX8_sumOf 1 = .ok (.istore_n 2, 1) := by decide +kernel
theorem dX8_sumOf_2 : decode cX8_sumOf 2 = .ok (.iconst 0, 1) := by decide +kernel
theorem dX8_sumOf_3 : decode cX8_sumOf 3 = .ok (.istore_n 3, 1) := by decide +kernel
theorem dX8_sumOf_4 : decode cX8_sumOf 4 = .ok (.iload_n 3, 1) := by decide +kernel
theorem dX8_sumOf_5 : decode cX8_sumOf 5 = .ok (.iload_n 1, 1) := by decide +kernel
theorem dX8_sumOf_6 : decode cX8_sumOf 6 = .ok (.if_icmp .ge 21, 3) := by decide +kernel
theorem dX8_sumOf_9 : decode cX8_sumOf 9 = .ok (.iload_n 3, 1) := by decide +kernel
theorem dX8_sumOf_10 : decode cX8_sumOf 10 = .ok (.aload_n 0, 1) := by decide +kernel
theorem dX8_sumOf_11 : decode cX8_sumOf 11 = .ok (.arraylength, 1) := by decide +kernel
theorem dX8_sumOf_12 : decode cX8_sumOf 12 = .ok (.if_icmp .ge 15, 3) := by decide +kernel
theorem dX8_sumOf_15 : decode cX8_sumOf 15 = .ok (.iload_n 2, 1) := by decide +kernel
theorem dX8_sumOf_16 : decode cX8_sumOf 16 = .ok (.aload_n 0, 1) := by decide +kernel
theorem dX8_sumOf_17 : decode cX8_sumOf 17 = .ok (.iload_n 3, 1) := by decide +kernel
theorem dX8_sumOf_18 : decode cX8_sumOf 18 = .ok (.iaload, 1) := by decide +kernel
theorem dX8_sumOf_19 : decode cX8_sumOf 19 = .ok (.iadd, 1) := by decide +kernel
theorem dX8_sumOf_20 : decode cX8_sumOf 20 = .ok (.istore_n 2, 1) := by decide +kernel
theorem dX8_sumOf_21 : decode cX8_sumOf 21 = .ok (.iinc 3 1, 3) := by decide +kernel
theorem dX8_sumOf_24 : decode cX8_sumOf 24 = .ok (.goto (-20), 3) := by decide +kernel
theorem dX8_sumOf_27 : decode cX8_sumOf 27 = .ok (.iload_n 2, 1) := by decide +kernel
theorem dX8_sumOf_28 : decode cX8_sumOf 28 = .ok (.ireturn, 1) := by decide +kernel
theorem dX8_settle_0 : decode cX8_settle 0 = .ok (.aload_n 0, 1) := by decide +kernel
theorem dX8_settle_1 : decode cX8_settle 1 = .ok (.getfield 35, 3) := by decide +kernel
theorem dX8_settle_4 : decode cX8_settle 4 = .ok (.aload_n 0, 1) := by decide +kernel
theorem dX8_settle_5 : decode cX8_settle 5 = .ok (.getfield 52, 3) := by decide +kernel
theorem dX8_settle_8 : decode cX8_settle 8 = .ok (.invokevirtual 256, 3) := by decide +kernel
theorem dX8_settle_11 : decode cX8_settle 11 = .ok (.aload_n 0, 1) := by decide +kernel
theorem dX8_settle_12 : decode cX8_settle 12 = .ok (.getfield 35, 3) := by decide +kernel
theorem dX8_settle_15 : decode cX8_settle 15 = .ok (.aload_n 0, 1) := by decide +kernel
theorem dX8_settle_16 : decode cX8_settle 16 = .ok (.getfield 52, 3) := by decide +kernel
theorem dX8_settle_19 : decode cX8_settle 19 = .ok (.aload_n 0, 1) := by decide +kernel
theorem dX8_settle_20 : decode cX8_settle 20 = .ok (.getfield 28, 3) := by decide +kernel
theorem dX8_settle_23 : decode cX8_settle 23 = .ok (.invokevirtual 263, 3) := by decide +kernel
theorem dX8_settle_26 : decode cX8_settle 26 = .ok (.return_, 1) := by decide +kernel
theorem dX8_change_0 : decode cX8_change 0 = .ok (.aload_n 2, 1) := by decide +kernel
theorem dX8_change_1 : decode cX8_change 1 = .ok (.iload_n 3, 1) := by decide +kernel
theorem dX8_change_2 : decode cX8_change 2 = .ok (.iaload, 1) := by decide +kernel
theorem dX8_change_3 : decode cX8_change 3 = .ok (.istore 5, 2) := by decide +kernel
theorem dX8_change_5 : decode cX8_change 5 = .ok (.iload 5, 2) := by decide +kernel
theorem dX8_change_7 : decode cX8_change 7 = .ok (.iload 4, 2) := by decide +kernel
theorem dX8_change_9 : decode cX8_change 9 = .ok (.if_icmp .ne 6, 3) := by decide +kernel
theorem dX8_change_12 : decode cX8_change 12 = .ok (.bipush (-2), 2) := by decide +kernel
theorem dX8_change_14 : decode cX8_change 14 = .ok (.ireturn, 1) := by decide +kernel
theorem dX8_change_15 : decode cX8_change 15 = .ok (.aload_n 2, 1) := by decide +kernel
theorem dX8_change_16 : decode cX8_change 16 = .ok (.iload_n 3, 1) := by decide +kernel
theorem dX8_change_17 : decode cX8_change 17 = .ok (.iload 4, 2) := by decide +kernel
theorem dX8_change_19 : decode cX8_change 19 = .ok (.iastore, 1) := by decide +kernel
theorem dX8_change_20 : decode cX8_change 20 = .ok (.aload_n 0, 1) := by decide +kernel
theorem dX8_change_21 : decode cX8_change 21 = .ok (.getfield 45, 3) := by decide +kernel
theorem dX8_change_24 : decode cX8_change 24 = .ok (.iload_n 1, 1) := by decide +kernel
theorem dX8_change_25 : decode cX8_change 25 = .ok (.iload_n 3, 1) := by decide +kernel
theorem dX8_change_26 : decode cX8_change 26 = .ok (.iload 5, 2) := by decide +kernel
theorem dX8_change_28 : decode cX8_change 28 = .ok (.invokevirtual 284, 3) := by decide +kernel
theorem dX8_change_31 : decode cX8_change 31 = .ok (.aload_n 0, 1) := by decide +kernel
theorem dX8_change_32 : decode cX8_change 32 = .ok (.invokevirtual 87, 3) := by decide +kernel
theorem dX8_change_35 : decode cX8_change 35 = .ok (.iload 5, 2) := by decide +kernel
theorem dX8_change_37 : decode cX8_change 37 = .ok (.ireturn, 1) := by decide +kernel
theorem dX8_rowOf_0 : decode cX8_rowOf 0 = .ok (.iload_n 1, 1) := by decide +kernel
theorem dX8_rowOf_1 : decode cX8_rowOf 1 = .ok (.lookupswitch 43 #[(0, 27), (1, 35)], 27) := by decide +kernel
theorem dX8_rowOf_28 : decode cX8_rowOf 28 = .ok (.aload_n 0, 1) := by decide +kernel
theorem dX8_rowOf_29 : decode cX8_rowOf 29 = .ok (.getfield 52, 3) := by decide +kernel
theorem dX8_rowOf_32 : decode cX8_rowOf 32 = .ok (.getfield 201, 3) := by decide +kernel
theorem dX8_rowOf_35 : decode cX8_rowOf 35 = .ok (.areturn, 1) := by decide +kernel
theorem dX8_rowOf_36 : decode cX8_rowOf 36 = .ok (.aload_n 0, 1) := by decide +kernel
theorem dX8_rowOf_37 : decode cX8_rowOf 37 = .ok (.getfield 52, 3) := by decide +kernel
theorem dX8_rowOf_40 : decode cX8_rowOf 40 = .ok (.getfield 108, 3) := by decide +kernel
theorem dX8_rowOf_43 : decode cX8_rowOf 43 = .ok (.areturn, 1) := by decide +kernel
theorem dX8_rowOf_44 : decode cX8_rowOf 44 = .ok (.aload_n 0, 1) := by decide +kernel
theorem dX8_rowOf_45 : decode cX8_rowOf 45 = .ok (.getfield 52, 3) := by decide +kernel
theorem dX8_rowOf_48 : decode cX8_rowOf 48 = .ok (.getfield 170, 3) := by decide +kernel
theorem dX8_rowOf_51 : decode cX8_rowOf 51 = .ok (.areturn, 1) := by decide +kernel
theorem dX8_hubBits_0 : decode cX8_hubBits 0 = .ok (.iconst 0, 1) := by decide +kernel
theorem dX8_hubBits_1 : decode cX8_hubBits 1 = .ok (.istore_n 1, 1) := by decide +kernel
theorem dX8_hubBits_2 : decode cX8_hubBits 2 = .ok (.iconst 0, 1) := by decide +kernel
theorem dX8_hubBits_3 : decode cX8_hubBits 3 = .ok (.istore_n 2, 1) := by decide +kernel
theorem dX8_hubBits_4 : decode cX8_hubBits 4 = .ok (.iload_n 2, 1) := by decide +kernel
theorem dX8_hubBits_5 : decode cX8_hubBits 5 = .ok (.aload_n 0, 1) := by decide +kernel
theorem dX8_hubBits_6 : decode cX8_hubBits 6 = .ok (.getfield 52, 3) := by decide +kernel
theorem dX8_hubBits_9 : decode cX8_hubBits 9 = .ok (.getfield 102, 3) := by decide +kernel
theorem dX8_hubBits_12 : decode cX8_hubBits 12 = .ok (.if_icmp .ge 48, 3) := by decide +kernel
theorem dX8_hubBits_15 : decode cX8_hubBits 15 = .ok (.iconst 0, 1) := by decide +kernel
theorem dX8_hubBits_16 : decode cX8_hubBits 16 = .ok (.istore_n 3, 1) := by decide +kernel
theorem dX8_hubBits_17 : decode cX8_hubBits 17 = .ok (.iload_n 3, 1) := by decide +kernel
theorem dX8_hubBits_18 : decode cX8_hubBits 18 = .ok (.aload_n 0, 1) := by decide +kernel
theorem dX8_hubBits_19 : decode cX8_hubBits 19 = .ok (.getfield 52, 3) := by decide +kernel
theorem dX8_hubBits_22 : decode cX8_hubBits 22 = .ok (.getfield 96, 3) := by decide +kernel
theorem dX8_hubBits_25 : decode cX8_hubBits 25 = .ok (.if_icmp .ge 29, 3) := by decide +kernel
theorem dX8_hubBits_28 : decode cX8_hubBits 28 = .ok (.aload_n 0, 1) := by decide +kernel
theorem dX8_hubBits_29 : decode cX8_hubBits 29 = .ok (.getfield 28, 3) := by decide +kernel
theorem dX8_hubBits_32 : decode cX8_hubBits 32 = .ok (.getfield 246, 3) := by decide +kernel
theorem dX8_hubBits_35 : decode cX8_hubBits 35 = .ok (.iload_n 2, 1) := by decide +kernel
theorem dX8_hubBits_36 : decode cX8_hubBits 36 = .ok (.aaload, 1) := by decide +kernel
theorem dX8_hubBits_37 : decode cX8_hubBits 37 = .ok (.iload_n 3, 1) := by decide +kernel
theorem dX8_hubBits_38 : decode cX8_hubBits 38 = .ok (.iaload, 1) := by decide +kernel
theorem dX8_hubBits_39 : decode cX8_hubBits 39 = .ok (.ifCond .le 9, 3) := by decide +kernel
theorem dX8_hubBits_42 : decode cX8_hubBits 42 = .ok (.iload_n 1, 1) := by decide +kernel
theorem dX8_hubBits_43 : decode cX8_hubBits 43 = .ok (.iconst 1, 1) := by decide +kernel
theorem dX8_hubBits_44 : decode cX8_hubBits 44 = .ok (.iload_n 3, 1) := by decide +kernel
theorem dX8_hubBits_45 : decode cX8_hubBits 45 = .ok (.ishl, 1) := by decide +kernel
theorem dX8_hubBits_46 : decode cX8_hubBits 46 = .ok (.ior, 1) := by decide +kernel
theorem dX8_hubBits_47 : decode cX8_hubBits 47 = .ok (.istore_n 1, 1) := by decide +kernel
theorem dX8_hubBits_48 : decode cX8_hubBits 48 = .ok (.iinc 3 1, 3) := by decide +kernel
theorem dX8_hubBits_51 : decode cX8_hubBits 51 = .ok (.goto (-34), 3) := by decide +kernel
theorem dX8_hubBits_54 : decode cX8_hubBits 54 = .ok (.iinc 2 1, 3) := by decide +kernel
theorem dX8_hubBits_57 : decode cX8_hubBits 57 = .ok (.goto (-53), 3) := by decide +kernel
theorem dX8_hubBits_60 : decode cX8_hubBits 60 = .ok (.iload_n 1, 1) := by decide +kernel
theorem dX8_hubBits_61 : decode cX8_hubBits 61 = .ok (.ireturn, 1) := by decide +kernel
theorem dX8_tripBits_0 : decode cX8_tripBits 0 = .ok (.iconst 0, 1) := by decide +kernel
theorem dX8_tripBits_1 : decode cX8_tripBits 1 = .ok (.istore_n 2, 1) := by decide +kernel
theorem dX8_tripBits_2 : decode cX8_tripBits 2 = .ok (.iconst 0, 1) := by decide +kernel
theorem dX8_tripBits_3 : decode cX8_tripBits 3 = .ok (.istore_n 3, 1) := by decide +kernel
theorem dX8_tripBits_4 : decode cX8_tripBits 4 = .ok (.iload_n 3, 1) := by decide +kernel
theorem dX8_tripBits_5 : decode cX8_tripBits 5 = .ok (.aload_n 0, 1) := by decide +kernel
theorem dX8_tripBits_6 : decode cX8_tripBits 6 = .ok (.getfield 52, 3) := by decide +kernel
theorem dX8_tripBits_9 : decode cX8_tripBits 9 = .ok (.getfield 105, 3) := by decide +kernel
theorem dX8_tripBits_12 : decode cX8_tripBits 12 = .ok (.if_icmp .ge 28, 3) := by decide +kernel
theorem dX8_tripBits_15 : decode cX8_tripBits 15 = .ok (.aload_n 0, 1) := by decide +kernel
theorem dX8_tripBits_16 : decode cX8_tripBits 16 = .ok (.getfield 52, 3) := by decide +kernel
theorem dX8_tripBits_19 : decode cX8_tripBits 19 = .ok (.getfield 198, 3) := by decide +kernel
theorem dX8_tripBits_22 : decode cX8_tripBits 22 = .ok (.iload_n 3, 1) := by decide +kernel
theorem dX8_tripBits_23 : decode cX8_tripBits 23 = .ok (.iaload, 1) := by decide +kernel
theorem dX8_tripBits_24 : decode cX8_tripBits 24 = .ok (.iload_n 1, 1) := by decide +kernel
theorem dX8_tripBits_25 : decode cX8_tripBits 25 = .ok (.if_icmp .ne 9, 3) := by decide +kernel
theorem dX8_tripBits_28 : decode cX8_tripBits 28 = .ok (.iload_n 2, 1) := by decide +kernel
theorem dX8_tripBits_29 : decode cX8_tripBits 29 = .ok (.iconst 1, 1) := by decide +kernel
theorem dX8_tripBits_30 : decode cX8_tripBits 30 = .ok (.iload_n 3, 1) := by decide +kernel
theorem dX8_tripBits_31 : decode cX8_tripBits 31 = .ok (.ishl, 1) := by decide +kernel
theorem dX8_tripBits_32 : decode cX8_tripBits 32 = .ok (.ior, 1) := by decide +kernel
theorem dX8_tripBits_33 : decode cX8_tripBits 33 = .ok (.istore_n 2, 1) := by decide +kernel
theorem dX8_tripBits_34 : decode cX8_tripBits 34 = .ok (.iinc 3 1, 3) := by decide +kernel
theorem dX8_tripBits_37 : decode cX8_tripBits 37 = .ok (.goto (-33), 3) := by decide +kernel
theorem dX8_tripBits_40 : decode cX8_tripBits 40 = .ok (.iload_n 2, 1) := by decide +kernel
theorem dX8_tripBits_41 : decode cX8_tripBits 41 = .ok (.ireturn, 1) := by decide +kernel
theorem dX8_sumOverTrips_0 : decode cX8_sumOverTrips 0 = .ok (.iconst 0, 1) := by decide +kernel
theorem dX8_sumOverTrips_1 : decode cX8_sumOverTrips 1 = .ok (.istore_n 3, 1) := by decide +kernel
theorem dX8_sumOverTrips_2 : decode cX8_sumOverTrips 2 = .ok (.iconst 0, 1) := by decide +kernel
theorem dX8_sumOverTrips_3 : decode cX8_sumOverTrips 3 = .ok (.istore 4, 2) := by decide +kernel
theorem dX8_sumOverTrips_5 : decode cX8_sumOverTrips 5 = .ok (.iload 4, 2) := by decide +kernel
theorem dX8_sumOverTrips_7 : decode cX8_sumOverTrips 7 = .ok (.aload_n 0, 1) := by decide +kernel
theorem dX8_sumOverTrips_8 : decode cX8_sumOverTrips 8 = .ok (.getfield 52, 3) := by decide +kernel
theorem dX8_sumOverTrips_11 : decode cX8_sumOverTrips 11 = .ok (.getfield 105, 3) := by decide +kernel
theorem dX8_sumOverTrips_14 : decode cX8_sumOverTrips 14 = .ok (.if_icmp .ge 37, 3) := by decide +kernel
theorem dX8_sumOverTrips_17 : decode cX8_sumOverTrips 17 = .ok (.iload 4, 2) := by decide +kernel
theorem dX8_sumOverTrips_19 : decode cX8_sumOverTrips 19 = .ok (.aload_n 2, 1) := by decide +kernel
theorem dX8_sumOverTrips_20 : decode cX8_sumOverTrips 20 = .ok (.arraylength, 1) := by decide +kernel
theorem dX8_sumOverTrips_21 : decode cX8_sumOverTrips 21 = .ok (.if_icmp .ge 30, 3) := by decide +kernel
theorem dX8_sumOverTrips_24 : decode cX8_sumOverTrips 24 = .ok (.aload_n 0, 1) := by decide +kernel
theorem dX8_sumOverTrips_25 : decode cX8_sumOverTrips 25 = .ok (.getfield 52, 3) := by decide +kernel
theorem dX8_sumOverTrips_28 : decode cX8_sumOverTrips 28 = .ok (.getfield 198, 3) := by decide +kernel
theorem dX8_sumOverTrips_31 : decode cX8_sumOverTrips 31 = .ok (.iload 4, 2) := by decide +kernel
theorem dX8_sumOverTrips_33 : decode cX8_sumOverTrips 33 = .ok (.iaload, 1) := by decide +kernel
theorem dX8_sumOverTrips_34 : decode cX8_sumOverTrips 34 = .ok (.iload_n 1, 1) := by decide +kernel
theorem dX8_sumOverTrips_35 : decode cX8_sumOverTrips 35 = .ok (.if_icmp .ne 10, 3) := by decide +kernel
theorem dX8_sumOverTrips_38 : decode cX8_sumOverTrips 38 = .ok (.iload_n 3, 1) := by decide +kernel
theorem dX8_sumOverTrips_39 : decode cX8_sumOverTrips 39 = .ok (.aload_n 2, 1) := by decide +kernel
theorem dX8_sumOverTrips_40 : decode cX8_sumOverTrips 40 = .ok (.iload 4, 2) := by decide +kernel
theorem dX8_sumOverTrips_42 : decode cX8_sumOverTrips 42 = .ok (.iaload, 1) := by decide +kernel
theorem dX8_sumOverTrips_43 : decode cX8_sumOverTrips 43 = .ok (.iadd, 1) := by decide +kernel
theorem dX8_sumOverTrips_44 : decode cX8_sumOverTrips 44 = .ok (.istore_n 3, 1) := by decide +kernel
theorem dX8_sumOverTrips_45 : decode cX8_sumOverTrips 45 = .ok (.iinc 4 1, 3) := by decide +kernel
theorem dX8_sumOverTrips_48 : decode cX8_sumOverTrips 48 = .ok (.goto (-43), 3) := by decide +kernel
theorem dX8_sumOverTrips_51 : decode cX8_sumOverTrips 51 = .ok (.iload_n 3, 1) := by decide +kernel
theorem dX8_sumOverTrips_52 : decode cX8_sumOverTrips 52 = .ok (.ireturn, 1) := by decide +kernel
theorem dX8_lastPlace_0 : decode cX8_lastPlace 0 = .ok (.iconst (-1), 1) := by decide +kernel
theorem dX8_lastPlace_1 : decode cX8_lastPlace 1 = .ok (.istore_n 2, 1) := by decide +kernel
theorem dX8_lastPlace_2 : decode cX8_lastPlace 2 = .ok (.iconst 0, 1) := by decide +kernel
theorem dX8_lastPlace_3 : decode cX8_lastPlace 3 = .ok (.istore_n 3, 1) := by decide +kernel
theorem dX8_lastPlace_4 : decode cX8_lastPlace 4 = .ok (.iload_n 3, 1) := by decide +kernel
theorem dX8_lastPlace_5 : decode cX8_lastPlace 5 = .ok (.aload_n 0, 1) := by decide +kernel
theorem dX8_lastPlace_6 : decode cX8_lastPlace 6 = .ok (.getfield 52, 3) := by decide +kernel
theorem dX8_lastPlace_9 : decode cX8_lastPlace 9 = .ok (.getfield 105, 3) := by decide +kernel
theorem dX8_lastPlace_12 : decode cX8_lastPlace 12 = .ok (.if_icmp .ge 32, 3) := by decide +kernel
theorem dX8_lastPlace_15 : decode cX8_lastPlace 15 = .ok (.aload_n 0, 1) := by decide +kernel
theorem dX8_lastPlace_16 : decode cX8_lastPlace 16 = .ok (.getfield 52, 3) := by decide +kernel
theorem dX8_lastPlace_19 : decode cX8_lastPlace 19 = .ok (.getfield 198, 3) := by decide +kernel
theorem dX8_lastPlace_22 : decode cX8_lastPlace 22 = .ok (.iload_n 3, 1) := by decide +kernel
theorem dX8_lastPlace_23 : decode cX8_lastPlace 23 = .ok (.iaload, 1) := by decide +kernel
theorem dX8_lastPlace_24 : decode cX8_lastPlace 24 = .ok (.iload_n 1, 1) := by decide +kernel
theorem dX8_lastPlace_25 : decode cX8_lastPlace 25 = .ok (.if_icmp .ne 13, 3) := by decide +kernel
theorem dX8_lastPlace_28 : decode cX8_lastPlace 28 = .ok (.aload_n 0, 1) := by decide +kernel
theorem dX8_lastPlace_29 : decode cX8_lastPlace 29 = .ok (.getfield 28, 3) := by decide +kernel
theorem dX8_lastPlace_32 : decode cX8_lastPlace 32 = .ok (.getfield 222, 3) := by decide +kernel
theorem dX8_lastPlace_35 : decode cX8_lastPlace 35 = .ok (.iload_n 3, 1) := by decide +kernel
theorem dX8_lastPlace_36 : decode cX8_lastPlace 36 = .ok (.iaload, 1) := by decide +kernel
theorem dX8_lastPlace_37 : decode cX8_lastPlace 37 = .ok (.istore_n 2, 1) := by decide +kernel
theorem dX8_lastPlace_38 : decode cX8_lastPlace 38 = .ok (.iinc 3 1, 3) := by decide +kernel
theorem dX8_lastPlace_41 : decode cX8_lastPlace 41 = .ok (.goto (-37), 3) := by decide +kernel
theorem dX8_lastPlace_44 : decode cX8_lastPlace 44 = .ok (.iload_n 2, 1) := by decide +kernel
theorem dX8_lastPlace_45 : decode cX8_lastPlace 45 = .ok (.ireturn, 1) := by decide +kernel
theorem dX8_tripBitsOfLoad_0 : decode cX8_tripBitsOfLoad 0 = .ok (.iconst 0, 1) := by decide +kernel
theorem dX8_tripBitsOfLoad_1 : decode cX8_tripBitsOfLoad 1 = .ok (.istore_n 2, 1) := by decide +kernel
theorem dX8_tripBitsOfLoad_2 : decode cX8_tripBitsOfLoad 2 = .ok (.iconst 0, 1) := by decide +kernel
theorem dX8_tripBitsOfLoad_3 : decode cX8_tripBitsOfLoad 3 = .ok (.istore_n 3, 1) := by decide +kernel
theorem dX8_tripBitsOfLoad_4 : decode cX8_tripBitsOfLoad 4 = .ok (.iload_n 3, 1) := by decide +kernel
theorem dX8_tripBitsOfLoad_5 : decode cX8_tripBitsOfLoad 5 = .ok (.aload_n 0, 1) := by decide +kernel
theorem dX8_tripBitsOfLoad_6 : decode cX8_tripBitsOfLoad 6 = .ok (.getfield 52, 3) := by decide +kernel
theorem dX8_tripBitsOfLoad_9 : decode cX8_tripBitsOfLoad 9 = .ok (.getfield 105, 3) := by decide +kernel
theorem dX8_tripBitsOfLoad_12 : decode cX8_tripBitsOfLoad 12 = .ok (.if_icmp .ge 31, 3) := by decide +kernel
theorem dX8_tripBitsOfLoad_15 : decode cX8_tripBitsOfLoad 15 = .ok (.aload_n 0, 1) := by decide +kernel
theorem dX8_tripBitsOfLoad_16 : decode cX8_tripBitsOfLoad 16 = .ok (.getfield 28, 3) := by decide +kernel
theorem dX8_tripBitsOfLoad_19 : decode cX8_tripBitsOfLoad 19 = .ok (.getfield 204, 3) := by decide +kernel
theorem dX8_tripBitsOfLoad_22 : decode cX8_tripBitsOfLoad 22 = .ok (.iload_n 3, 1) := by decide +kernel
theorem dX8_tripBitsOfLoad_23 : decode cX8_tripBitsOfLoad 23 = .ok (.iaload, 1) := by decide +kernel
theorem dX8_tripBitsOfLoad_24 : decode cX8_tripBitsOfLoad 24 = .ok (.iload_n 1, 1) := by decide +kernel
theorem dX8_tripBitsOfLoad_25 : decode cX8_tripBitsOfLoad 25 = .ok (.ishr, 1) := by decide +kernel
theorem dX8_tripBitsOfLoad_26 : decode cX8_tripBitsOfLoad 26 = .ok (.iconst 1, 1) := by decide +kernel
theorem dX8_tripBitsOfLoad_27 : decode cX8_tripBitsOfLoad 27 = .ok (.iand, 1) := by decide +kernel
theorem dX8_tripBitsOfLoad_28 : decode cX8_tripBitsOfLoad 28 = .ok (.ifCond .eq 9, 3) := by decide +kernel
theorem dX8_tripBitsOfLoad_31 : decode cX8_tripBitsOfLoad 31 = .ok (.iload_n 2, 1) := by decide +kernel
theorem dX8_tripBitsOfLoad_32 : decode cX8_tripBitsOfLoad 32 = .ok (.iconst 1, 1) := by decide +kernel
theorem dX8_tripBitsOfLoad_33 : decode cX8_tripBitsOfLoad 33 = .ok (.iload_n 3, 1) := by decide +kernel
theorem dX8_tripBitsOfLoad_34 : decode cX8_tripBitsOfLoad 34 = .ok (.ishl, 1) := by decide +kernel
theorem dX8_tripBitsOfLoad_35 : decode cX8_tripBitsOfLoad 35 = .ok (.ior, 1) := by decide +kernel
theorem dX8_tripBitsOfLoad_36 : decode cX8_tripBitsOfLoad 36 = .ok (.istore_n 2, 1) := by decide +kernel
theorem dX8_tripBitsOfLoad_37 : decode cX8_tripBitsOfLoad 37 = .ok (.iinc 3 1, 3) := by decide +kernel
theorem dX8_tripBitsOfLoad_40 : decode cX8_tripBitsOfLoad 40 = .ok (.goto (-36), 3) := by decide +kernel
theorem dX8_tripBitsOfLoad_43 : decode cX8_tripBitsOfLoad 43 = .ok (.iload_n 2, 1) := by decide +kernel
theorem dX8_tripBitsOfLoad_44 : decode cX8_tripBitsOfLoad 44 = .ok (.ireturn, 1) := by decide +kernel
theorem dX8_partsOfLoad_0 : decode cX8_partsOfLoad 0 = .ok (.iconst 0, 1) := by decide +kernel
theorem dX8_partsOfLoad_1 : decode cX8_partsOfLoad 1 = .ok (.istore_n 2, 1) := by decide +kernel
theorem dX8_partsOfLoad_2 : decode cX8_partsOfLoad 2 = .ok (.iconst 0, 1) := by decide +kernel
theorem dX8_partsOfLoad_3 : decode cX8_partsOfLoad 3 = .ok (.istore_n 3, 1) := by decide +kernel
theorem dX8_partsOfLoad_4 : decode cX8_partsOfLoad 4 = .ok (.iload_n 3, 1) := by decide +kernel
theorem dX8_partsOfLoad_5 : decode cX8_partsOfLoad 5 = .ok (.aload_n 0, 1) := by decide +kernel
theorem dX8_partsOfLoad_6 : decode cX8_partsOfLoad 6 = .ok (.getfield 52, 3) := by decide +kernel
theorem dX8_partsOfLoad_9 : decode cX8_partsOfLoad 9 = .ok (.getfield 105, 3) := by decide +kernel
theorem dX8_partsOfLoad_12 : decode cX8_partsOfLoad 12 = .ok (.if_icmp .ge 23, 3) := by decide +kernel
theorem dX8_partsOfLoad_15 : decode cX8_partsOfLoad 15 = .ok (.iload_n 2, 1) := by decide +kernel
theorem dX8_partsOfLoad_16 : decode cX8_partsOfLoad 16 = .ok (.aload_n 0, 1) := by decide +kernel
theorem dX8_partsOfLoad_17 : decode cX8_partsOfLoad 17 = .ok (.getfield 35, 3) := by decide +kernel
theorem dX8_partsOfLoad_20 : decode cX8_partsOfLoad 20 = .ok (.getfield 288, 3) := by decide +kernel
theorem dX8_partsOfLoad_23 : decode cX8_partsOfLoad 23 = .ok (.iload_n 3, 1) := by decide +kernel
theorem dX8_partsOfLoad_24 : decode cX8_partsOfLoad 24 = .ok (.aaload, 1) := by decide +kernel
theorem dX8_partsOfLoad_25 : decode cX8_partsOfLoad 25 = .ok (.iload_n 1, 1) := by decide +kernel
theorem dX8_partsOfLoad_26 : decode cX8_partsOfLoad 26 = .ok (.iaload, 1) := by decide +kernel
theorem dX8_partsOfLoad_27 : decode cX8_partsOfLoad 27 = .ok (.iadd, 1) := by decide +kernel
theorem dX8_partsOfLoad_28 : decode cX8_partsOfLoad 28 = .ok (.istore_n 2, 1) := by decide +kernel
theorem dX8_partsOfLoad_29 : decode cX8_partsOfLoad 29 = .ok (.iinc 3 1, 3) := by decide +kernel
theorem dX8_partsOfLoad_32 : decode cX8_partsOfLoad 32 = .ok (.goto (-28), 3) := by decide +kernel
theorem dX8_partsOfLoad_35 : decode cX8_partsOfLoad 35 = .ok (.iload_n 2, 1) := by decide +kernel
theorem dX8_partsOfLoad_36 : decode cX8_partsOfLoad 36 = .ok (.ireturn, 1) := by decide +kernel
theorem dX8_due_0 : decode cX8_due 0 = .ok (.aload_n 0, 1) := by decide +kernel
theorem dX8_due_1 : decode cX8_due 1 = .ok (.getfield 52, 3) := by decide +kernel
theorem dX8_due_4 : decode cX8_due 4 = .ok (.getfield 170, 3) := by decide +kernel
theorem dX8_due_7 : decode cX8_due 7 = .ok (.iload_n 1, 1) := by decide +kernel
theorem dX8_due_8 : decode cX8_due 8 = .ok (.iaload, 1) := by decide +kernel
theorem dX8_due_9 : decode cX8_due 9 = .ok (.i2l, 1) := by decide +kernel
theorem dX8_due_10 : decode cX8_due 10 = .ok (.aload_n 0, 1) := by decide +kernel
theorem dX8_due_11 : decode cX8_due 11 = .ok (.getfield 28, 3) := by decide +kernel
theorem dX8_due_14 : decode cX8_due 14 = .ok (.getfield 291, 3) := by decide +kernel
theorem dX8_due_17 : decode cX8_due 17 = .ok (.iload_n 1, 1) := by decide +kernel
theorem dX8_due_18 : decode cX8_due 18 = .ok (.iaload, 1) := by decide +kernel
theorem dX8_due_19 : decode cX8_due 19 = .ok (.i2l, 1) := by decide +kernel
theorem dX8_due_20 : decode cX8_due 20 = .ok (.lmul, 1) := by decide +kernel
theorem dX8_due_21 : decode cX8_due 21 = .ok (.aload_n 0, 1) := by decide +kernel
theorem dX8_due_22 : decode cX8_due 22 = .ok (.getfield 52, 3) := by decide +kernel
theorem dX8_due_25 : decode cX8_due 25 = .ok (.getfield 93, 3) := by decide +kernel
theorem dX8_due_28 : decode cX8_due 28 = .ok (.i2l, 1) := by decide +kernel
theorem dX8_due_29 : decode cX8_due 29 = .ok (.lmul, 1) := by decide +kernel
theorem dX8_due_30 : decode cX8_due 30 = .ok (.lstore_n 2, 1) := by decide +kernel
theorem dX8_due_31 : decode cX8_due 31 = .ok (.lload_n 2, 1) := by decide +kernel
theorem dX8_due_32 : decode cX8_due 32 = .ok (.ldc2_w 294, 3) := by decide +kernel
theorem dX8_due_35 : decode cX8_due 35 = .ok (.ladd, 1) := by decide +kernel
theorem dX8_due_36 : decode cX8_due 36 = .ok (.ldc2_w 296, 3) := by decide +kernel
theorem dX8_due_39 : decode cX8_due 39 = .ok (.ldiv, 1) := by decide +kernel
theorem dX8_due_40 : decode cX8_due 40 = .ok (.l2i, 1) := by decide +kernel
theorem dX8_due_41 : decode cX8_due 41 = .ok (.ireturn, 1) := by decide +kernel
theorem dX8_isDearer_0 : decode cX8_isDearer 0 = .ok (.aload_n 0, 1) := by decide +kernel
theorem dX8_isDearer_1 : decode cX8_isDearer 1 = .ok (.getfield 35, 3) := by decide +kernel
theorem dX8_isDearer_4 : decode cX8_isDearer 4 = .ok (.getfield 213, 3) := by decide +kernel
theorem dX8_isDearer_7 : decode cX8_isDearer 7 = .ok (.iload_n 1, 1) := by decide +kernel
theorem dX8_isDearer_8 : decode cX8_isDearer 8 = .ok (.iaload, 1) := by decide +kernel
theorem dX8_isDearer_9 : decode cX8_isDearer 9 = .ok (.i2l, 1) := by decide +kernel
theorem dX8_isDearer_10 : decode cX8_isDearer 10 = .ok (.aload_n 0, 1) := by decide +kernel
theorem dX8_isDearer_11 : decode cX8_isDearer 11 = .ok (.getfield 35, 3) := by decide +kernel
theorem dX8_isDearer_14 : decode cX8_isDearer 14 = .ok (.getfield 207, 3) := by decide +kernel
theorem dX8_isDearer_17 : decode cX8_isDearer 17 = .ok (.iload_n 2, 1) := by decide +kernel
theorem dX8_isDearer_18 : decode cX8_isDearer 18 = .ok (.iaload, 1) := by decide +kernel
theorem dX8_isDearer_19 : decode cX8_isDearer 19 = .ok (.i2l, 1) := by decide +kernel
theorem dX8_isDearer_20 : decode cX8_isDearer 20 = .ok (.lmul, 1) := by decide +kernel
theorem dX8_isDearer_21 : decode cX8_isDearer 21 = .ok (.lstore_n 3, 1) := by decide +kernel
theorem dX8_isDearer_22 : decode cX8_isDearer 22 = .ok (.aload_n 0, 1) := by decide +kernel
theorem dX8_isDearer_23 : decode cX8_isDearer 23 = .ok (.getfield 35, 3) := by decide +kernel
theorem dX8_isDearer_26 : decode cX8_isDearer 26 = .ok (.getfield 213, 3) := by decide +kernel
theorem dX8_isDearer_29 : decode cX8_isDearer 29 = .ok (.iload_n 2, 1) := by decide +kernel
theorem dX8_isDearer_30 : decode cX8_isDearer 30 = .ok (.iaload, 1) := by decide +kernel
theorem dX8_isDearer_31 : decode cX8_isDearer 31 = .ok (.i2l, 1) := by decide +kernel
theorem dX8_isDearer_32 : decode cX8_isDearer 32 = .ok (.aload_n 0, 1) := by decide +kernel
theorem dX8_isDearer_33 : decode cX8_isDearer 33 = .ok (.getfield 35, 3) := by decide +kernel
theorem dX8_isDearer_36 : decode cX8_isDearer 36 = .ok (.getfield 207, 3) := by decide +kernel
theorem dX8_isDearer_39 : decode cX8_isDearer 39 = .ok (.iload_n 1, 1) := by decide +kernel
theorem dX8_isDearer_40 : decode cX8_isDearer 40 = .ok (.iaload, 1) := by decide +kernel
theorem dX8_isDearer_41 : decode cX8_isDearer 41 = .ok (.i2l, 1) := by decide +kernel
theorem dX8_isDearer_42 : decode cX8_isDearer 42 = .ok (.lmul, 1) := by decide +kernel
theorem dX8_isDearer_43 : decode cX8_isDearer 43 = .ok (.lstore 5, 2) := by decide +kernel
theorem dX8_isDearer_45 : decode cX8_isDearer 45 = .ok (.lload_n 3, 1) := by decide +kernel
theorem dX8_isDearer_46 : decode cX8_isDearer 46 = .ok (.lload 5, 2) := by decide +kernel
theorem dX8_isDearer_48 : decode cX8_isDearer 48 = .ok (.lcmp, 1) := by decide +kernel
theorem dX8_isDearer_49 : decode cX8_isDearer 49 = .ok (.ifCond .le 7, 3) := by decide +kernel
theorem dX8_isDearer_52 : decode cX8_isDearer 52 = .ok (.iconst 1, 1) := by decide +kernel
theorem dX8_isDearer_53 : decode cX8_isDearer 53 = .ok (.goto 4, 3) := by decide +kernel
theorem dX8_isDearer_56 : decode cX8_isDearer 56 = .ok (.iconst 0, 1) := by decide +kernel
theorem dX8_isDearer_57 : decode cX8_isDearer 57 = .ok (.ireturn, 1) := by decide +kernel
theorem dL_load_0 : decode cL_load 0 = .ok (.aload_n 3, 1) := by decide +kernel
theorem dL_load_1 : decode cL_load 1 = .ok (.iconst 0, 1) := by decide +kernel
theorem dL_load_2 : decode cL_load 2 = .ok (.aload_n 0, 1) := by decide +kernel
theorem dL_load_3 : decode cL_load 3 = .ok (.iload_n 1, 1) := by decide +kernel
theorem dL_load_4 : decode cL_load 4 = .ok (.iload_n 2, 1) := by decide +kernel
theorem dL_load_5 : decode cL_load 5 = .ok (.invokevirtual 7, 3) := by decide +kernel
theorem dL_load_8 : decode cL_load 8 = .ok (.i2l, 1) := by decide +kernel
theorem dL_load_9 : decode cL_load 9 = .ok (.lastore, 1) := by decide +kernel
theorem dL_load_10 : decode cL_load 10 = .ok (.goto 7, 3) := by decide +kernel
theorem dL_load_13 : decode cL_load 13 = .ok (.astore 4, 2) := by decide +kernel
theorem dL_load_15 : decode cL_load 15 = .ok (.iconst 1, 1) := by decide +kernel
theorem dL_load_16 : decode cL_load 16 = .ok (.ireturn, 1) := by decide +kernel
theorem dL_load_17 : decode cL_load 17 = .ok (.iconst 0, 1) := by decide +kernel
theorem dL_load_18 : decode cL_load 18 = .ok (.ireturn, 1) := by decide +kernel
theorem dL_trip_0 : decode cL_trip 0 = .ok (.aload_n 3, 1) := by decide +kernel
theorem dL_trip_1 : decode cL_trip 1 = .ok (.iconst 0, 1) := by decide +kernel
theorem dL_trip_2 : decode cL_trip 2 = .ok (.aload_n 0, 1) := by decide +kernel
theorem dL_trip_3 : decode cL_trip 3 = .ok (.iload_n 1, 1) := by decide +kernel
theorem dL_trip_4 : decode cL_trip 4 = .ok (.iload_n 2, 1) := by decide +kernel
theorem dL_trip_5 : decode cL_trip 5 = .ok (.invokevirtual 15, 3) := by decide +kernel
theorem dL_trip_8 : decode cL_trip 8 = .ok (.i2l, 1) := by decide +kernel
theorem dL_trip_9 : decode cL_trip 9 = .ok (.lastore, 1) := by decide +kernel
theorem dL_trip_10 : decode cL_trip 10 = .ok (.goto 7, 3) := by decide +kernel
theorem dL_trip_13 : decode cL_trip 13 = .ok (.astore 4, 2) := by decide +kernel
theorem dL_trip_15 : decode cL_trip 15 = .ok (.iconst 1, 1) := by decide +kernel
theorem dL_trip_16 : decode cL_trip 16 = .ok (.ireturn, 1) := by decide +kernel
theorem dL_trip_17 : decode cL_trip 17 = .ok (.iconst 0, 1) := by decide +kernel
theorem dL_trip_18 : decode cL_trip 18 = .ok (.ireturn, 1) := by decide +kernel
theorem dL_law_0 : decode cL_law 0 = .ok (.new 8, 3) := by decide +kernel
theorem dL_law_3 : decode cL_law 3 = .ok (.dup, 1) := by decide +kernel
theorem dL_law_4 : decode cL_law 4 = .ok (.invokespecial 18, 3) := by decide +kernel
theorem dL_law_7 : decode cL_law 7 = .ok (.astore_n 1, 1) := by decide +kernel
theorem dL_law_8 : decode cL_law 8 = .ok (.new 19, 3) := by decide +kernel
theorem dL_law_11 : decode cL_law 11 = .ok (.dup, 1) := by decide +kernel
theorem dL_law_12 : decode cL_law 12 = .ok (.invokespecial 21, 3) := by decide +kernel
theorem dL_law_15 : decode cL_law 15 = .ok (.astore_n 2, 1) := by decide +kernel
theorem dL_law_16 : decode cL_law 16 = .ok (.iconst 1, 1) := by decide +kernel
theorem dL_law_17 : decode cL_law 17 = .ok (.newarray .long, 2) := by decide +kernel
theorem dL_law_19 : decode cL_law 19 = .ok (.astore_n 3, 1) := by decide +kernel
theorem dL_law_20 : decode cL_law 20 = .ok (.iconst 0, 1) := by decide +kernel
theorem dL_law_21 : decode cL_law 21 = .ok (.istore 4, 2) := by decide +kernel
theorem dL_law_23 : decode cL_law 23 = .ok (.iload 4, 2) := by decide +kernel
theorem dL_law_25 : decode cL_law 25 = .ok (.aload_n 0, 1) := by decide +kernel
theorem dL_law_26 : decode cL_law 26 = .ok (.arraylength, 1) := by decide +kernel
theorem dL_law_27 : decode cL_law 27 = .ok (.bipush 6, 2) := by decide +kernel
theorem dL_law_29 : decode cL_law 29 = .ok (.isub, 1) := by decide +kernel
theorem dL_law_30 : decode cL_law 30 = .ok (.if_icmp .gt 847, 3) := by decide +kernel
theorem dL_law_33 : decode cL_law 33 = .ok (.aload_n 0, 1) := by decide +kernel
theorem dL_law_34 : decode cL_law 34 = .ok (.iload 4, 2) := by decide +kernel
theorem dL_law_36 : decode cL_law 36 = .ok (.iaload, 1) := by decide +kernel
theorem dL_law_37 : decode cL_law 37 = .ok (.bipush 31, 2) := by decide +kernel
theorem dL_law_39 : decode cL_law 39 = .ok (.iand, 1) := by decide +kernel
theorem dL_law_40 : decode cL_law 40 = .ok (.tableswitch 831 0 20 #[100, 173, 198, 211, 224, 249, 286, 323, 391, 459, 496, 533, 570, 583, 608, 657, 694, 707, 744, 781, 818], 100) := by decide +kernel
theorem dL_law_140 : decode cL_law 140 = .ok (.aload_n 1, 1) := by decide +kernel
theorem dL_law_141 : decode cL_law 141 = .ok (.aload_n 0, 1) := by decide +kernel
theorem dL_law_142 : decode cL_law 142 = .ok (.iload 4, 2) := by decide +kernel
theorem dL_law_144 : decode cL_law 144 = .ok (.iconst 1, 1) := by decide +kernel
theorem dL_law_145 : decode cL_law 145 = .ok (.iadd, 1) := by decide +kernel
theorem dL_law_146 : decode cL_law 146 = .ok (.iaload, 1) := by decide +kernel
theorem dL_law_147 : decode cL_law 147 = .ok (.aload_n 0, 1) := by decide +kernel
theorem dL_law_148 : decode cL_law 148 = .ok (.iload 4, 2) := by decide +kernel
theorem dL_law_150 : decode cL_law 150 = .ok (.iconst 2, 1) := by decide +kernel
theorem dL_law_151 : decode cL_law 151 = .ok (.iadd, 1) := by decide +kernel
theorem dL_law_152 : decode cL_law 152 = .ok (.iaload, 1) := by decide +kernel
theorem dL_law_153 : decode cL_law 153 = .ok (.aload_n 0, 1) := by decide +kernel
theorem dL_law_154 : decode cL_law 154 = .ok (.iload 4, 2) := by decide +kernel
theorem dL_law_156 : decode cL_law 156 = .ok (.iconst 3, 1) := by decide +kernel
theorem dL_law_157 : decode cL_law 157 = .ok (.iadd, 1) := by decide +kernel
theorem dL_law_158 : decode cL_law 158 = .ok (.iaload, 1) := by decide +kernel
theorem dL_law_159 : decode cL_law 159 = .ok (.aload_n 0, 1) := by decide +kernel
theorem dL_law_160 : decode cL_law 160 = .ok (.iload 4, 2) := by decide +kernel
theorem dL_law_162 : decode cL_law 162 = .ok (.iconst 4, 1) := by decide +kernel
theorem dL_law_163 : decode cL_law 163 = .ok (.iadd, 1) := by decide +kernel
theorem dL_law_164 : decode cL_law 164 = .ok (.iaload, 1) := by decide +kernel
theorem dL_law_165 : decode cL_law 165 = .ok (.aload_n 0, 1) := by decide +kernel
theorem dL_law_166 : decode cL_law 166 = .ok (.iload 4, 2) := by decide +kernel
theorem dL_law_168 : decode cL_law 168 = .ok (.iconst 5, 1) := by decide +kernel
theorem dL_law_169 : decode cL_law 169 = .ok (.iadd, 1) := by decide +kernel
theorem dL_law_170 : decode cL_law 170 = .ok (.iaload, 1) := by decide +kernel
theorem dL_law_171 : decode cL_law 171 = .ok (.invokevirtual 22, 3) := by decide +kernel
theorem dL_law_174 : decode cL_law 174 = .ok (.aload_n 2, 1) := by decide +kernel
theorem dL_law_175 : decode cL_law 175 = .ok (.aload_n 0, 1) := by decide +kernel
theorem dL_law_176 : decode cL_law 176 = .ok (.iload 4, 2) := by decide +kernel
theorem dL_law_178 : decode cL_law 178 = .ok (.iconst 1, 1) := by decide +kernel
theorem dL_law_179 : decode cL_law 179 = .ok (.iadd, 1) := by decide +kernel
theorem dL_law_180 : decode cL_law 180 = .ok (.iaload, 1) := by decide +kernel
theorem dL_law_181 : decode cL_law 181 = .ok (.aload_n 0, 1) := by decide +kernel
theorem dL_law_182 : decode cL_law 182 = .ok (.iload 4, 2) := by decide +kernel
theorem dL_law_184 : decode cL_law 184 = .ok (.iconst 2, 1) := by decide +kernel
theorem dL_law_185 : decode cL_law 185 = .ok (.iadd, 1) := by decide +kernel
theorem dL_law_186 : decode cL_law 186 = .ok (.iaload, 1) := by decide +kernel
theorem dL_law_187 : decode cL_law 187 = .ok (.aload_n 0, 1) := by decide +kernel
theorem dL_law_188 : decode cL_law 188 = .ok (.iload 4, 2) := by decide +kernel
theorem dL_law_190 : decode cL_law 190 = .ok (.iconst 3, 1) := by decide +kernel
theorem dL_law_191 : decode cL_law 191 = .ok (.iadd, 1) := by decide +kernel
theorem dL_law_192 : decode cL_law 192 = .ok (.iaload, 1) := by decide +kernel
theorem dL_law_193 : decode cL_law 193 = .ok (.aload_n 0, 1) := by decide +kernel
theorem dL_law_194 : decode cL_law 194 = .ok (.iload 4, 2) := by decide +kernel
theorem dL_law_196 : decode cL_law 196 = .ok (.iconst 4, 1) := by decide +kernel
theorem dL_law_197 : decode cL_law 197 = .ok (.iadd, 1) := by decide +kernel
theorem dL_law_198 : decode cL_law 198 = .ok (.iaload, 1) := by decide +kernel
theorem dL_law_199 : decode cL_law 199 = .ok (.aload_n 0, 1) := by decide +kernel
theorem dL_law_200 : decode cL_law 200 = .ok (.iload 4, 2) := by decide +kernel
theorem dL_law_202 : decode cL_law 202 = .ok (.iconst 5, 1) := by decide +kernel
theorem dL_law_203 : decode cL_law 203 = .ok (.iadd, 1) := by decide +kernel
theorem dL_law_204 : decode cL_law 204 = .ok (.iaload, 1) := by decide +kernel
theorem dL_law_205 : decode cL_law 205 = .ok (.invokevirtual 26, 3) := by decide +kernel
theorem dL_law_208 : decode cL_law 208 = .ok (.if_icmp .eq 663, 3) := by decide +kernel
theorem dL_law_211 : decode cL_law 211 = .ok (.iconst 0, 1) := by decide +kernel
theorem dL_law_212 : decode cL_law 212 = .ok (.ireturn, 1) := by decide +kernel
theorem dL_law_213 : decode cL_law 213 = .ok (.aload_n 1, 1) := by decide +kernel
theorem dL_law_214 : decode cL_law 214 = .ok (.aload_n 0, 1) := by decide +kernel
theorem dL_law_215 : decode cL_law 215 = .ok (.iload 4, 2) := by decide +kernel
theorem dL_law_217 : decode cL_law 217 = .ok (.iconst 1, 1) := by decide +kernel
theorem dL_law_218 : decode cL_law 218 = .ok (.iadd, 1) := by decide +kernel
theorem dL_law_219 : decode cL_law 219 = .ok (.iaload, 1) := by decide +kernel
theorem dL_law_220 : decode cL_law 220 = .ok (.invokevirtual 27, 3) := by decide +kernel
theorem dL_law_223 : decode cL_law 223 = .ok (.aload_n 2, 1) := by decide +kernel
theorem dL_law_224 : decode cL_law 224 = .ok (.aload_n 0, 1) := by decide +kernel
theorem dL_law_225 : decode cL_law 225 = .ok (.iload 4, 2) := by decide +kernel
theorem dL_law_227 : decode cL_law 227 = .ok (.iconst 1, 1) := by decide +kernel
theorem dL_law_228 : decode cL_law 228 = .ok (.iadd, 1) := by decide +kernel
theorem dL_law_229 : decode cL_law 229 = .ok (.iaload, 1) := by decide +kernel
theorem dL_law_230 : decode cL_law 230 = .ok (.invokevirtual 31, 3) := by decide +kernel
theorem dL_law_233 : decode cL_law 233 = .ok (.if_icmp .eq 638, 3) := by decide +kernel
theorem dL_law_236 : decode cL_law 236 = .ok (.iconst 0, 1) := by decide +kernel
theorem dL_law_237 : decode cL_law 237 = .ok (.ireturn, 1) := by decide +kernel
theorem dL_law_238 : decode cL_law 238 = .ok (.aload_n 1, 1) := by decide +kernel
theorem dL_law_239 : decode cL_law 239 = .ok (.invokevirtual 32, 3) := by decide +kernel
theorem dL_law_242 : decode cL_law 242 = .ok (.aload_n 2, 1) := by decide +kernel
theorem dL_law_243 : decode cL_law 243 = .ok (.invokevirtual 36, 3) := by decide +kernel
theorem dL_law_246 : decode cL_law 246 = .ok (.if_icmp .eq 625, 3) := by decide +kernel
theorem dL_law_249 : decode cL_law 249 = .ok (.iconst 0, 1) := by decide +kernel
theorem dL_law_250 : decode cL_law 250 = .ok (.ireturn, 1) := by decide +kernel
theorem dL_law_251 : decode cL_law 251 = .ok (.aload_n 1, 1) := by decide +kernel
theorem dL_law_252 : decode cL_law 252 = .ok (.invokevirtual 37, 3) := by decide +kernel
theorem dL_law_255 : decode cL_law 255 = .ok (.aload_n 2, 1) := by decide +kernel
theorem dL_law_256 : decode cL_law 256 = .ok (.invokevirtual 40, 3) := by decide +kernel
theorem dL_law_259 : decode cL_law 259 = .ok (.if_icmp .eq 612, 3) := by decide +kernel
theorem dL_law_262 : decode cL_law 262 = .ok (.iconst 0, 1) := by decide +kernel
theorem dL_law_263 : decode cL_law 263 = .ok (.ireturn, 1) := by decide +kernel
theorem dL_law_264 : decode cL_law 264 = .ok (.aload_n 1, 1) := by decide +kernel
theorem dL_law_265 : decode cL_law 265 = .ok (.aload_n 0, 1) := by decide +kernel
theorem dL_law_266 : decode cL_law 266 = .ok (.iload 4, 2) := by decide +kernel
theorem dL_law_268 : decode cL_law 268 = .ok (.iconst 1, 1) := by decide +kernel
theorem dL_law_269 : decode cL_law 269 = .ok (.iadd, 1) := by decide +kernel
theorem dL_law_270 : decode cL_law 270 = .ok (.iaload, 1) := by decide +kernel
theorem dL_law_271 : decode cL_law 271 = .ok (.invokevirtual 41, 3) := by decide +kernel
theorem dL_law_274 : decode cL_law 274 = .ok (.aload_n 2, 1) := by decide +kernel
theorem dL_law_275 : decode cL_law 275 = .ok (.aload_n 0, 1) := by decide +kernel
theorem dL_law_276 : decode cL_law 276 = .ok (.iload 4, 2) := by decide +kernel
theorem dL_law_278 : decode cL_law 278 = .ok (.iconst 1, 1) := by decide +kernel
theorem dL_law_279 : decode cL_law 279 = .ok (.iadd, 1) := by decide +kernel
theorem dL_law_280 : decode cL_law 280 = .ok (.iaload, 1) := by decide +kernel
theorem dL_law_281 : decode cL_law 281 = .ok (.invokevirtual 45, 3) := by decide +kernel
theorem dL_law_284 : decode cL_law 284 = .ok (.if_icmp .eq 587, 3) := by decide +kernel
theorem dL_law_287 : decode cL_law 287 = .ok (.iconst 0, 1) := by decide +kernel
theorem dL_law_288 : decode cL_law 288 = .ok (.ireturn, 1) := by decide +kernel
theorem dL_law_289 : decode cL_law 289 = .ok (.aload_n 1, 1) := by decide +kernel
theorem dL_law_290 : decode cL_law 290 = .ok (.aload_n 0, 1) := by decide +kernel
theorem dL_law_291 : decode cL_law 291 = .ok (.iload 4, 2) := by decide +kernel
theorem dL_law_293 : decode cL_law 293 = .ok (.iconst 1, 1) := by decide +kernel
theorem dL_law_294 : decode cL_law 294 = .ok (.iadd, 1) := by decide +kernel
theorem dL_law_295 : decode cL_law 295 = .ok (.iaload, 1) := by decide +kernel
theorem dL_law_296 : decode cL_law 296 = .ok (.aload_n 0, 1) := by decide +kernel
theorem dL_law_297 : decode cL_law 297 = .ok (.iload 4, 2) := by decide +kernel
theorem dL_law_299 : decode cL_law 299 = .ok (.iconst 2, 1) := by decide +kernel
theorem dL_law_300 : decode cL_law 300 = .ok (.iadd, 1) := by decide +kernel
theorem dL_law_301 : decode cL_law 301 = .ok (.iaload, 1) := by decide +kernel
theorem dL_law_302 : decode cL_law 302 = .ok (.invokevirtual 46, 3) := by decide +kernel
theorem dL_law_305 : decode cL_law 305 = .ok (.aload_n 2, 1) := by decide +kernel
theorem dL_law_306 : decode cL_law 306 = .ok (.aload_n 0, 1) := by decide +kernel
theorem dL_law_307 : decode cL_law 307 = .ok (.iload 4, 2) := by decide +kernel
theorem dL_law_309 : decode cL_law 309 = .ok (.iconst 1, 1) := by decide +kernel
theorem dL_law_310 : decode cL_law 310 = .ok (.iadd, 1) := by decide +kernel
theorem dL_law_311 : decode cL_law 311 = .ok (.iaload, 1) := by decide +kernel
theorem dL_law_312 : decode cL_law 312 = .ok (.aload_n 0, 1) := by decide +kernel
theorem dL_law_313 : decode cL_law 313 = .ok (.iload 4, 2) := by decide +kernel
theorem dL_law_315 : decode cL_law 315 = .ok (.iconst 2, 1) := by decide +kernel
theorem dL_law_316 : decode cL_law 316 = .ok (.iadd, 1) := by decide +kernel
theorem dL_law_317 : decode cL_law 317 = .ok (.iaload, 1) := by decide +kernel
theorem dL_law_318 : decode cL_law 318 = .ok (.invokevirtual 49, 3) := by decide +kernel
theorem dL_law_321 : decode cL_law 321 = .ok (.if_icmp .eq 550, 3) := by decide +kernel
theorem dL_law_324 : decode cL_law 324 = .ok (.iconst 0, 1) := by decide +kernel
theorem dL_law_325 : decode cL_law 325 = .ok (.ireturn, 1) := by decide +kernel
theorem dL_law_326 : decode cL_law 326 = .ok (.aload_n 1, 1) := by decide +kernel
theorem dL_law_327 : decode cL_law 327 = .ok (.aload_n 0, 1) := by decide +kernel
theorem dL_law_328 : decode cL_law 328 = .ok (.iload 4, 2) := by decide +kernel
theorem dL_law_330 : decode cL_law 330 = .ok (.iconst 1, 1) := by decide +kernel
theorem dL_law_331 : decode cL_law 331 = .ok (.iadd, 1) := by decide +kernel
theorem dL_law_332 : decode cL_law 332 = .ok (.iaload, 1) := by decide +kernel
theorem dL_law_333 : decode cL_law 333 = .ok (.aload_n 0, 1) := by decide +kernel
theorem dL_law_334 : decode cL_law 334 = .ok (.iload 4, 2) := by decide +kernel
theorem dL_law_336 : decode cL_law 336 = .ok (.iconst 2, 1) := by decide +kernel
theorem dL_law_337 : decode cL_law 337 = .ok (.iadd, 1) := by decide +kernel
theorem dL_law_338 : decode cL_law 338 = .ok (.iaload, 1) := by decide +kernel
theorem dL_law_339 : decode cL_law 339 = .ok (.invokevirtual 50, 3) := by decide +kernel
theorem dL_law_342 : decode cL_law 342 = .ok (.aload_n 2, 1) := by decide +kernel
theorem dL_law_343 : decode cL_law 343 = .ok (.aload_n 0, 1) := by decide +kernel
theorem dL_law_344 : decode cL_law 344 = .ok (.iload 4, 2) := by decide +kernel
theorem dL_law_346 : decode cL_law 346 = .ok (.iconst 1, 1) := by decide +kernel
theorem dL_law_347 : decode cL_law 347 = .ok (.iadd, 1) := by decide +kernel
theorem dL_law_348 : decode cL_law 348 = .ok (.iaload, 1) := by decide +kernel
theorem dL_law_349 : decode cL_law 349 = .ok (.aload_n 0, 1) := by decide +kernel
theorem dL_law_350 : decode cL_law 350 = .ok (.iload 4, 2) := by decide +kernel
theorem dL_law_352 : decode cL_law 352 = .ok (.iconst 2, 1) := by decide +kernel
theorem dL_law_353 : decode cL_law 353 = .ok (.iadd, 1) := by decide +kernel
theorem dL_law_354 : decode cL_law 354 = .ok (.iaload, 1) := by decide +kernel
theorem dL_law_355 : decode cL_law 355 = .ok (.invokevirtual 53, 3) := by decide +kernel
theorem dL_law_358 : decode cL_law 358 = .ok (.if_icmp .eq 513, 3) := by decide +kernel
theorem dL_law_361 : decode cL_law 361 = .ok (.iconst 0, 1) := by decide +kernel
theorem dL_law_362 : decode cL_law 362 = .ok (.ireturn, 1) := by decide +kernel
theorem dL_law_363 : decode cL_law 363 = .ok (.aload_n 1, 1) := by decide +kernel
theorem dL_law_364 : decode cL_law 364 = .ok (.aload_n 0, 1) := by decide +kernel
theorem dL_law_365 : decode cL_law 365 = .ok (.iload 4, 2) := by decide +kernel
theorem dL_law_367 : decode cL_law 367 = .ok (.iconst 1, 1) := by decide +kernel
theorem dL_law_368 : decode cL_law 368 = .ok (.iadd, 1) := by decide +kernel
theorem dL_law_369 : decode cL_law 369 = .ok (.iaload, 1) := by decide +kernel
theorem dL_law_370 : decode cL_law 370 = .ok (.aload_n 0, 1) := by decide +kernel
theorem dL_law_371 : decode cL_law 371 = .ok (.iload 4, 2) := by decide +kernel
theorem dL_law_373 : decode cL_law 373 = .ok (.iconst 2, 1) := by decide +kernel
theorem dL_law_374 : decode cL_law 374 = .ok (.iadd, 1) := by decide +kernel
theorem dL_law_375 : decode cL_law 375 = .ok (.iaload, 1) := by decide +kernel
theorem dL_law_376 : decode cL_law 376 = .ok (.aload_n 3, 1) := by decide +kernel
theorem dL_law_377 : decode cL_law 377 = .ok (.invokestatic 54, 3) := by decide +kernel
theorem dL_law_380 : decode cL_law 380 = .ok (.istore 5, 2) := by decide +kernel
theorem dL_law_382 : decode cL_law 382 = .ok (.aload_n 2, 1) := by decide +kernel
theorem dL_law_383 : decode cL_law 383 = .ok (.aload_n 0, 1) := by decide +kernel
theorem dL_law_384 : decode cL_law 384 = .ok (.iload 4, 2) := by decide +kernel
theorem dL_law_386 : decode cL_law 386 = .ok (.iconst 1, 1) := by decide +kernel
theorem dL_law_387 : decode cL_law 387 = .ok (.iadd, 1) := by decide +kernel
theorem dL_law_388 : decode cL_law 388 = .ok (.iaload, 1) := by decide +kernel
theorem dL_law_389 : decode cL_law 389 = .ok (.aload_n 0, 1) := by decide +kernel
theorem dL_law_390 : decode cL_law 390 = .ok (.iload 4, 2) := by decide +kernel
theorem dL_law_392 : decode cL_law 392 = .ok (.iconst 2, 1) := by decide +kernel
theorem dL_law_393 : decode cL_law 393 = .ok (.iadd, 1) := by decide +kernel
theorem dL_law_394 : decode cL_law 394 = .ok (.iaload, 1) := by decide +kernel
theorem dL_law_395 : decode cL_law 395 = .ok (.invokevirtual 59, 3) := by decide +kernel
theorem dL_law_398 : decode cL_law 398 = .ok (.istore 6, 2) := by decide +kernel
theorem dL_law_400 : decode cL_law 400 = .ok (.aload_n 2, 1) := by decide +kernel
theorem dL_law_401 : decode cL_law 401 = .ok (.invokevirtual 60, 3) := by decide +kernel
theorem dL_law_404 : decode cL_law 404 = .ok (.iload 5, 2) := by decide +kernel
theorem dL_law_406 : decode cL_law 406 = .ok (.if_icmp .eq 5, 3) := by decide +kernel
theorem dL_law_409 : decode cL_law 409 = .ok (.iconst 0, 1) := by decide +kernel
theorem dL_law_410 : decode cL_law 410 = .ok (.ireturn, 1) := by decide +kernel
theorem dL_law_411 : decode cL_law 411 = .ok (.iload 5, 2) := by decide +kernel
theorem dL_law_413 : decode cL_law 413 = .ok (.ifCond .ne 15, 3) := by decide +kernel
theorem dL_law_416 : decode cL_law 416 = .ok (.aload_n 3, 1) := by decide +kernel
theorem dL_law_417 : decode cL_law 417 = .ok (.iconst 0, 1) := by decide +kernel
theorem dL_law_418 : decode cL_law 418 = .ok (.laload, 1) := by decide +kernel
theorem dL_law_419 : decode cL_law 419 = .ok (.iload 6, 2) := by decide +kernel
theorem dL_law_421 : decode cL_law 421 = .ok (.i2l, 1) := by decide +kernel
theorem dL_law_422 : decode cL_law 422 = .ok (.lcmp, 1) := by decide +kernel
theorem dL_law_423 : decode cL_law 423 = .ok (.ifCond .eq 5, 3) := by decide +kernel
theorem dL_law_426 : decode cL_law 426 = .ok (.iconst 0, 1) := by decide +kernel
theorem dL_law_427 : decode cL_law 427 = .ok (.ireturn, 1) := by decide +kernel
theorem dL_law_428 : decode cL_law 428 = .ok (.goto 443, 3) := by decide +kernel
theorem dL_law_431 : decode cL_law 431 = .ok (.aload_n 1, 1) := by decide +kernel
theorem dL_law_432 : decode cL_law 432 = .ok (.aload_n 0, 1) := by decide +kernel
theorem dL_law_433 : decode cL_law 433 = .ok (.iload 4, 2) := by decide +kernel
theorem dL_law_435 : decode cL_law 435 = .ok (.iconst 1, 1) := by decide +kernel
theorem dL_law_436 : decode cL_law 436 = .ok (.iadd, 1) := by decide +kernel
theorem dL_law_437 : decode cL_law 437 = .ok (.iaload, 1) := by decide +kernel
theorem dL_law_438 : decode cL_law 438 = .ok (.aload_n 0, 1) := by decide +kernel
theorem dL_law_439 : decode cL_law 439 = .ok (.iload 4, 2) := by decide +kernel
theorem dL_law_441 : decode cL_law 441 = .ok (.iconst 2, 1) := by decide +kernel
theorem dL_law_442 : decode cL_law 442 = .ok (.iadd, 1) := by decide +kernel
theorem dL_law_443 : decode cL_law 443 = .ok (.iaload, 1) := by decide +kernel
theorem dL_law_444 : decode cL_law 444 = .ok (.aload_n 3, 1) := by decide +kernel
theorem dL_law_445 : decode cL_law 445 = .ok (.invokestatic 63, 3) := by decide +kernel
theorem dL_law_448 : decode cL_law 448 = .ok (.istore 5, 2) := by decide +kernel
theorem dL_law_450 : decode cL_law 450 = .ok (.aload_n 2, 1) := by decide +kernel
theorem dL_law_451 : decode cL_law 451 = .ok (.aload_n 0, 1) := by decide +kernel
theorem dL_law_452 : decode cL_law 452 = .ok (.iload 4, 2) := by decide +kernel
theorem dL_law_454 : decode cL_law 454 = .ok (.iconst 1, 1) := by decide +kernel
theorem dL_law_455 : decode cL_law 455 = .ok (.iadd, 1) := by decide +kernel
theorem dL_law_456 : decode cL_law 456 = .ok (.iaload, 1) := by decide +kernel
theorem dL_law_457 : decode cL_law 457 = .ok (.aload_n 0, 1) := by decide +kernel
theorem dL_law_458 : decode cL_law 458 = .ok (.iload 4, 2) := by decide +kernel
theorem dL_law_460 : decode cL_law 460 = .ok (.iconst 2, 1) := by decide +kernel
theorem dL_law_461 : decode cL_law 461 = .ok (.iadd, 1) := by decide +kernel
theorem dL_law_462 : decode cL_law 462 = .ok (.iaload, 1) := by decide +kernel
theorem dL_law_463 : decode cL_law 463 = .ok (.invokevirtual 65, 3) := by decide +kernel
theorem dL_law_466 : decode cL_law 466 = .ok (.istore 6, 2) := by decide +kernel
theorem dL_law_468 : decode cL_law 468 = .ok (.aload_n 2, 1) := by decide +kernel
theorem dL_law_469 : decode cL_law 469 = .ok (.invokevirtual 60, 3) := by decide +kernel
theorem dL_law_472 : decode cL_law 472 = .ok (.iload 5, 2) := by decide +kernel
theorem dL_law_474 : decode cL_law 474 = .ok (.if_icmp .eq 5, 3) := by decide +kernel
theorem dL_law_477 : decode cL_law 477 = .ok (.iconst 0, 1) := by decide +kernel
theorem dL_law_478 : decode cL_law 478 = .ok (.ireturn, 1) := by decide +kernel
theorem dL_law_479 : decode cL_law 479 = .ok (.iload 5, 2) := by decide +kernel
theorem dL_law_481 : decode cL_law 481 = .ok (.ifCond .ne 15, 3) := by decide +kernel
theorem dL_law_484 : decode cL_law 484 = .ok (.aload_n 3, 1) := by decide +kernel
theorem dL_law_485 : decode cL_law 485 = .ok (.iconst 0, 1) := by decide +kernel
theorem dL_law_486 : decode cL_law 486 = .ok (.laload, 1) := by decide +kernel
theorem dL_law_487 : decode cL_law 487 = .ok (.iload 6, 2) := by decide +kernel
theorem dL_law_489 : decode cL_law 489 = .ok (.i2l, 1) := by decide +kernel
theorem dL_law_490 : decode cL_law 490 = .ok (.lcmp, 1) := by decide +kernel
theorem dL_law_491 : decode cL_law 491 = .ok (.ifCond .eq 5, 3) := by decide +kernel
theorem dL_law_494 : decode cL_law 494 = .ok (.iconst 0, 1) := by decide +kernel
theorem dL_law_495 : decode cL_law 495 = .ok (.ireturn, 1) := by decide +kernel
theorem dL_law_496 : decode cL_law 496 = .ok (.goto 375, 3) := by decide +kernel
theorem dL_law_499 : decode cL_law 499 = .ok (.aload_n 1, 1) := by decide +kernel
theorem dL_law_500 : decode cL_law 500 = .ok (.aload_n 0, 1) := by decide +kernel
theorem dL_law_501 : decode cL_law 501 = .ok (.iload 4, 2) := by decide +kernel
theorem dL_law_503 : decode cL_law 503 = .ok (.iconst 1, 1) := by decide +kernel
theorem dL_law_504 : decode cL_law 504 = .ok (.iadd, 1) := by decide +kernel
theorem dL_law_505 : decode cL_law 505 = .ok (.iaload, 1) := by decide +kernel
theorem dL_law_506 : decode cL_law 506 = .ok (.aload_n 0, 1) := by decide +kernel
theorem dL_law_507 : decode cL_law 507 = .ok (.iload 4, 2) := by decide +kernel
theorem dL_law_509 : decode cL_law 509 = .ok (.iconst 2, 1) := by decide +kernel
theorem dL_law_510 : decode cL_law 510 = .ok (.iadd, 1) := by decide +kernel
theorem dL_law_511 : decode cL_law 511 = .ok (.iaload, 1) := by decide +kernel
theorem dL_law_512 : decode cL_law 512 = .ok (.invokevirtual 66, 3) := by decide +kernel
theorem dL_law_515 : decode cL_law 515 = .ok (.aload_n 2, 1) := by decide +kernel
theorem dL_law_516 : decode cL_law 516 = .ok (.aload_n 0, 1) := by decide +kernel
theorem dL_law_517 : decode cL_law 517 = .ok (.iload 4, 2) := by decide +kernel
theorem dL_law_519 : decode cL_law 519 = .ok (.iconst 1, 1) := by decide +kernel
theorem dL_law_520 : decode cL_law 520 = .ok (.iadd, 1) := by decide +kernel
theorem dL_law_521 : decode cL_law 521 = .ok (.iaload, 1) := by decide +kernel
theorem dL_law_522 : decode cL_law 522 = .ok (.aload_n 0, 1) := by decide +kernel
theorem dL_law_523 : decode cL_law 523 = .ok (.iload 4, 2) := by decide +kernel
theorem dL_law_525 : decode cL_law 525 = .ok (.iconst 2, 1) := by decide +kernel
theorem dL_law_526 : decode cL_law 526 = .ok (.iadd, 1) := by decide +kernel
theorem dL_law_527 : decode cL_law 527 = .ok (.iaload, 1) := by decide +kernel
theorem dL_law_528 : decode cL_law 528 = .ok (.invokevirtual 69, 3) := by decide +kernel
theorem dL_law_531 : decode cL_law 531 = .ok (.if_icmp .eq 340, 3) := by decide +kernel
theorem dL_law_534 : decode cL_law 534 = .ok (.iconst 0, 1) := by decide +kernel
theorem dL_law_535 : decode cL_law 535 = .ok (.ireturn, 1) := by decide +kernel
theorem dL_law_536 : decode cL_law 536 = .ok (.aload_n 1, 1) := by decide +kernel
theorem dL_law_537 : decode cL_law 537 = .ok (.aload_n 0, 1) := by decide +kernel
theorem dL_law_538 : decode cL_law 538 = .ok (.iload 4, 2) := by decide +kernel
theorem dL_law_540 : decode cL_law 540 = .ok (.iconst 1, 1) := by decide +kernel
theorem dL_law_541 : decode cL_law 541 = .ok (.iadd, 1) := by decide +kernel
theorem dL_law_542 : decode cL_law 542 = .ok (.iaload, 1) := by decide +kernel
theorem dL_law_543 : decode cL_law 543 = .ok (.aload_n 0, 1) := by decide +kernel
theorem dL_law_544 : decode cL_law 544 = .ok (.iload 4, 2) := by decide +kernel
theorem dL_law_546 : decode cL_law 546 = .ok (.iconst 2, 1) := by decide +kernel
theorem dL_law_547 : decode cL_law 547 = .ok (.iadd, 1) := by decide +kernel
theorem dL_law_548 : decode cL_law 548 = .ok (.iaload, 1) := by decide +kernel
theorem dL_law_549 : decode cL_law 549 = .ok (.invokevirtual 70, 3) := by decide +kernel
theorem dL_law_552 : decode cL_law 552 = .ok (.aload_n 2, 1) := by decide +kernel
theorem dL_law_553 : decode cL_law 553 = .ok (.aload_n 0, 1) := by decide +kernel
theorem dL_law_554 : decode cL_law 554 = .ok (.iload 4, 2) := by decide +kernel
theorem dL_law_556 : decode cL_law 556 = .ok (.iconst 1, 1) := by decide +kernel
theorem dL_law_557 : decode cL_law 557 = .ok (.iadd, 1) := by decide +kernel
theorem dL_law_558 : decode cL_law 558 = .ok (.iaload, 1) := by decide +kernel
theorem dL_law_559 : decode cL_law 559 = .ok (.aload_n 0, 1) := by decide +kernel
theorem dL_law_560 : decode cL_law 560 = .ok (.iload 4, 2) := by decide +kernel
theorem dL_law_562 : decode cL_law 562 = .ok (.iconst 2, 1) := by decide +kernel
theorem dL_law_563 : decode cL_law 563 = .ok (.iadd, 1) := by decide +kernel
theorem dL_law_564 : decode cL_law 564 = .ok (.iaload, 1) := by decide +kernel
theorem dL_law_565 : decode cL_law 565 = .ok (.invokevirtual 73, 3) := by decide +kernel
theorem dL_law_568 : decode cL_law 568 = .ok (.if_icmp .eq 303, 3) := by decide +kernel
theorem dL_law_571 : decode cL_law 571 = .ok (.iconst 0, 1) := by decide +kernel
theorem dL_law_572 : decode cL_law 572 = .ok (.ireturn, 1) := by decide +kernel
theorem dL_law_573 : decode cL_law 573 = .ok (.aload_n 1, 1) := by decide +kernel
theorem dL_law_574 : decode cL_law 574 = .ok (.aload_n 0, 1) := by decide +kernel
theorem dL_law_575 : decode cL_law 575 = .ok (.iload 4, 2) := by decide +kernel
theorem dL_law_577 : decode cL_law 577 = .ok (.iconst 1, 1) := by decide +kernel
theorem dL_law_578 : decode cL_law 578 = .ok (.iadd, 1) := by decide +kernel
theorem dL_law_579 : decode cL_law 579 = .ok (.iaload, 1) := by decide +kernel
theorem dL_law_580 : decode cL_law 580 = .ok (.aload_n 0, 1) := by decide +kernel
theorem dL_law_581 : decode cL_law 581 = .ok (.iload 4, 2) := by decide +kernel
theorem dL_law_583 : decode cL_law 583 = .ok (.iconst 2, 1) := by decide +kernel
theorem dL_law_584 : decode cL_law 584 = .ok (.iadd, 1) := by decide +kernel
theorem dL_law_585 : decode cL_law 585 = .ok (.iaload, 1) := by decide +kernel
theorem dL_law_586 : decode cL_law 586 = .ok (.invokevirtual 74, 3) := by decide +kernel
theorem dL_law_589 : decode cL_law 589 = .ok (.aload_n 2, 1) := by decide +kernel
theorem dL_law_590 : decode cL_law 590 = .ok (.aload_n 0, 1) := by decide +kernel
theorem dL_law_591 : decode cL_law 591 = .ok (.iload 4, 2) := by decide +kernel
theorem dL_law_593 : decode cL_law 593 = .ok (.iconst 1, 1) := by decide +kernel
theorem dL_law_594 : decode cL_law 594 = .ok (.iadd, 1) := by decide +kernel
theorem dL_law_595 : decode cL_law 595 = .ok (.iaload, 1) := by decide +kernel
theorem dL_law_596 : decode cL_law 596 = .ok (.aload_n 0, 1) := by decide +kernel
theorem dL_law_597 : decode cL_law 597 = .ok (.iload 4, 2) := by decide +kernel
theorem dL_law_599 : decode cL_law 599 = .ok (.iconst 2, 1) := by decide +kernel
theorem dL_law_600 : decode cL_law 600 = .ok (.iadd, 1) := by decide +kernel
theorem dL_law_601 : decode cL_law 601 = .ok (.iaload, 1) := by decide +kernel
theorem dL_law_602 : decode cL_law 602 = .ok (.invokevirtual 77, 3) := by decide +kernel
theorem dL_law_605 : decode cL_law 605 = .ok (.if_icmp .eq 266, 3) := by decide +kernel
theorem dL_law_608 : decode cL_law 608 = .ok (.iconst 0, 1) := by decide +kernel
theorem dL_law_609 : decode cL_law 609 = .ok (.ireturn, 1) := by decide +kernel
theorem dL_law_610 : decode cL_law 610 = .ok (.aload_n 1, 1) := by decide +kernel
theorem dL_law_611 : decode cL_law 611 = .ok (.invokevirtual 78, 3) := by decide +kernel
theorem dL_law_614 : decode cL_law 614 = .ok (.aload_n 2, 1) := by decide +kernel
theorem dL_law_615 : decode cL_law 615 = .ok (.invokevirtual 81, 3) := by decide +kernel
theorem dL_law_618 : decode cL_law 618 = .ok (.if_icmp .eq 253, 3) := by decide +kernel
theorem dL_law_621 : decode cL_law 621 = .ok (.iconst 0, 1) := by decide +kernel
theorem dL_law_622 : decode cL_law 622 = .ok (.ireturn, 1) := by decide +kernel
theorem dL_law_623 : decode cL_law 623 = .ok (.aload_n 1, 1) := by decide +kernel
theorem dL_law_624 : decode cL_law 624 = .ok (.aload_n 0, 1) := by decide +kernel
theorem dL_law_625 : decode cL_law 625 = .ok (.iload 4, 2) := by decide +kernel
theorem dL_law_627 : decode cL_law 627 = .ok (.iconst 1, 1) := by decide +kernel
theorem dL_law_628 : decode cL_law 628 = .ok (.iadd, 1) := by decide +kernel
theorem dL_law_629 : decode cL_law 629 = .ok (.iaload, 1) := by decide +kernel
theorem dL_law_630 : decode cL_law 630 = .ok (.invokevirtual 82, 3) := by decide +kernel
theorem dL_law_633 : decode cL_law 633 = .ok (.aload_n 2, 1) := by decide +kernel
theorem dL_law_634 : decode cL_law 634 = .ok (.aload_n 0, 1) := by decide +kernel
theorem dL_law_635 : decode cL_law 635 = .ok (.iload 4, 2) := by decide +kernel
theorem dL_law_637 : decode cL_law 637 = .ok (.iconst 1, 1) := by decide +kernel
theorem dL_law_638 : decode cL_law 638 = .ok (.iadd, 1) := by decide +kernel
theorem dL_law_639 : decode cL_law 639 = .ok (.iaload, 1) := by decide +kernel
theorem dL_law_640 : decode cL_law 640 = .ok (.invokevirtual 85, 3) := by decide +kernel
theorem dL_law_643 : decode cL_law 643 = .ok (.if_icmp .eq 228, 3) := by decide +kernel
theorem dL_law_646 : decode cL_law 646 = .ok (.iconst 0, 1) := by decide +kernel
theorem dL_law_647 : decode cL_law 647 = .ok (.ireturn, 1) := by decide +kernel
theorem dL_law_648 : decode cL_law 648 = .ok (.aload_n 1, 1) := by decide +kernel
theorem dL_law_649 : decode cL_law 649 = .ok (.aload_n 0, 1) := by decide +kernel
theorem dL_law_650 : decode cL_law 650 = .ok (.iload 4, 2) := by decide +kernel
theorem dL_law_652 : decode cL_law 652 = .ok (.iconst 1, 1) := by decide +kernel
theorem dL_law_653 : decode cL_law 653 = .ok (.iadd, 1) := by decide +kernel
theorem dL_law_654 : decode cL_law 654 = .ok (.iaload, 1) := by decide +kernel
theorem dL_law_655 : decode cL_law 655 = .ok (.aload_n 0, 1) := by decide +kernel
theorem dL_law_656 : decode cL_law 656 = .ok (.iload 4, 2) := by decide +kernel
theorem dL_law_658 : decode cL_law 658 = .ok (.iconst 2, 1) := by decide +kernel
theorem dL_law_659 : decode cL_law 659 = .ok (.iadd, 1) := by decide +kernel
theorem dL_law_660 : decode cL_law 660 = .ok (.iaload, 1) := by decide +kernel
theorem dL_law_661 : decode cL_law 661 = .ok (.aload_n 0, 1) := by decide +kernel
theorem dL_law_662 : decode cL_law 662 = .ok (.iload 4, 2) := by decide +kernel
theorem dL_law_664 : decode cL_law 664 = .ok (.iconst 3, 1) := by decide +kernel
theorem dL_law_665 : decode cL_law 665 = .ok (.iadd, 1) := by decide +kernel
theorem dL_law_666 : decode cL_law 666 = .ok (.iaload, 1) := by decide +kernel
theorem dL_law_667 : decode cL_law 667 = .ok (.invokevirtual 86, 3) := by decide +kernel
theorem dL_law_670 : decode cL_law 670 = .ok (.aload_n 2, 1) := by decide +kernel
theorem dL_law_671 : decode cL_law 671 = .ok (.aload_n 0, 1) := by decide +kernel
theorem dL_law_672 : decode cL_law 672 = .ok (.iload 4, 2) := by decide +kernel
theorem dL_law_674 : decode cL_law 674 = .ok (.iconst 1, 1) := by decide +kernel
theorem dL_law_675 : decode cL_law 675 = .ok (.iadd, 1) := by decide +kernel
theorem dL_law_676 : decode cL_law 676 = .ok (.iaload, 1) := by decide +kernel
theorem dL_law_677 : decode cL_law 677 = .ok (.aload_n 0, 1) := by decide +kernel
theorem dL_law_678 : decode cL_law 678 = .ok (.iload 4, 2) := by decide +kernel
theorem dL_law_680 : decode cL_law 680 = .ok (.iconst 2, 1) := by decide +kernel
theorem dL_law_681 : decode cL_law 681 = .ok (.iadd, 1) := by decide +kernel
theorem dL_law_682 : decode cL_law 682 = .ok (.iaload, 1) := by decide +kernel
theorem dL_law_683 : decode cL_law 683 = .ok (.aload_n 0, 1) := by decide +kernel
theorem dL_law_684 : decode cL_law 684 = .ok (.iload 4, 2) := by decide +kernel
theorem dL_law_686 : decode cL_law 686 = .ok (.iconst 3, 1) := by decide +kernel
theorem dL_law_687 : decode cL_law 687 = .ok (.iadd, 1) := by decide +kernel
theorem dL_law_688 : decode cL_law 688 = .ok (.iaload, 1) := by decide +kernel
theorem dL_law_689 : decode cL_law 689 = .ok (.invokevirtual 90, 3) := by decide +kernel
theorem dL_law_692 : decode cL_law 692 = .ok (.if_icmp .eq 179, 3) := by decide +kernel
theorem dL_law_695 : decode cL_law 695 = .ok (.iconst 0, 1) := by decide +kernel
theorem dL_law_696 : decode cL_law 696 = .ok (.ireturn, 1) := by decide +kernel
theorem dL_law_697 : decode cL_law 697 = .ok (.aload_n 1, 1) := by decide +kernel
theorem dL_law_698 : decode cL_law 698 = .ok (.aload_n 0, 1) := by decide +kernel
theorem dL_law_699 : decode cL_law 699 = .ok (.iload 4, 2) := by decide +kernel
theorem dL_law_701 : decode cL_law 701 = .ok (.iconst 1, 1) := by decide +kernel
theorem dL_law_702 : decode cL_law 702 = .ok (.iadd, 1) := by decide +kernel
theorem dL_law_703 : decode cL_law 703 = .ok (.iaload, 1) := by decide +kernel
theorem dL_law_704 : decode cL_law 704 = .ok (.aload_n 0, 1) := by decide +kernel
theorem dL_law_705 : decode cL_law 705 = .ok (.iload 4, 2) := by decide +kernel
theorem dL_law_707 : decode cL_law 707 = .ok (.iconst 2, 1) := by decide +kernel
theorem dL_law_708 : decode cL_law 708 = .ok (.iadd, 1) := by decide +kernel
theorem dL_law_709 : decode cL_law 709 = .ok (.iaload, 1) := by decide +kernel
theorem dL_law_710 : decode cL_law 710 = .ok (.invokevirtual 91, 3) := by decide +kernel
theorem dL_law_713 : decode cL_law 713 = .ok (.aload_n 2, 1) := by decide +kernel
theorem dL_law_714 : decode cL_law 714 = .ok (.aload_n 0, 1) := by decide +kernel
theorem dL_law_715 : decode cL_law 715 = .ok (.iload 4, 2) := by decide +kernel
theorem dL_law_717 : decode cL_law 717 = .ok (.iconst 1, 1) := by decide +kernel
theorem dL_law_718 : decode cL_law 718 = .ok (.iadd, 1) := by decide +kernel
theorem dL_law_719 : decode cL_law 719 = .ok (.iaload, 1) := by decide +kernel
theorem dL_law_720 : decode cL_law 720 = .ok (.aload_n 0, 1) := by decide +kernel
theorem dL_law_721 : decode cL_law 721 = .ok (.iload 4, 2) := by decide +kernel
theorem dL_law_723 : decode cL_law 723 = .ok (.iconst 2, 1) := by decide +kernel
theorem dL_law_724 : decode cL_law 724 = .ok (.iadd, 1) := by decide +kernel
theorem dL_law_725 : decode cL_law 725 = .ok (.iaload, 1) := by decide +kernel
theorem dL_law_726 : decode cL_law 726 = .ok (.invokevirtual 94, 3) := by decide +kernel
theorem dL_law_729 : decode cL_law 729 = .ok (.if_icmp .eq 142, 3) := by decide +kernel
theorem dL_law_732 : decode cL_law 732 = .ok (.iconst 0, 1) := by decide +kernel
theorem dL_law_733 : decode cL_law 733 = .ok (.ireturn, 1) := by decide +kernel
theorem dL_law_734 : decode cL_law 734 = .ok (.aload_n 1, 1) := by decide +kernel
theorem dL_law_735 : decode cL_law 735 = .ok (.invokevirtual 95, 3) := by decide +kernel
theorem dL_law_738 : decode cL_law 738 = .ok (.aload_n 2, 1) := by decide +kernel
theorem dL_law_739 : decode cL_law 739 = .ok (.invokevirtual 98, 3) := by decide +kernel
theorem dL_law_742 : decode cL_law 742 = .ok (.if_icmp .eq 129, 3) := by decide +kernel
theorem dL_law_745 : decode cL_law 745 = .ok (.iconst 0, 1) := by decide +kernel
theorem dL_law_746 : decode cL_law 746 = .ok (.ireturn, 1) := by decide +kernel
theorem dL_law_747 : decode cL_law 747 = .ok (.aload_n 1, 1) := by decide +kernel
theorem dL_law_748 : decode cL_law 748 = .ok (.aload_n 0, 1) := by decide +kernel
theorem dL_law_749 : decode cL_law 749 = .ok (.iload 4, 2) := by decide +kernel
theorem dL_law_751 : decode cL_law 751 = .ok (.iconst 1, 1) := by decide +kernel
theorem dL_law_752 : decode cL_law 752 = .ok (.iadd, 1) := by decide +kernel
theorem dL_law_753 : decode cL_law 753 = .ok (.iaload, 1) := by decide +kernel
theorem dL_law_754 : decode cL_law 754 = .ok (.aload_n 0, 1) := by decide +kernel
theorem dL_law_755 : decode cL_law 755 = .ok (.iload 4, 2) := by decide +kernel
theorem dL_law_757 : decode cL_law 757 = .ok (.iconst 2, 1) := by decide +kernel
theorem dL_law_758 : decode cL_law 758 = .ok (.iadd, 1) := by decide +kernel
theorem dL_law_759 : decode cL_law 759 = .ok (.iaload, 1) := by decide +kernel
theorem dL_law_760 : decode cL_law 760 = .ok (.invokevirtual 99, 3) := by decide +kernel
theorem dL_law_763 : decode cL_law 763 = .ok (.aload_n 2, 1) := by decide +kernel
theorem dL_law_764 : decode cL_law 764 = .ok (.aload_n 0, 1) := by decide +kernel
theorem dL_law_765 : decode cL_law 765 = .ok (.iload 4, 2) := by decide +kernel
theorem dL_law_767 : decode cL_law 767 = .ok (.iconst 1, 1) := by decide +kernel
theorem dL_law_768 : decode cL_law 768 = .ok (.iadd, 1) := by decide +kernel
theorem dL_law_769 : decode cL_law 769 = .ok (.iaload, 1) := by decide +kernel
theorem dL_law_770 : decode cL_law 770 = .ok (.aload_n 0, 1) := by decide +kernel
theorem dL_law_771 : decode cL_law 771 = .ok (.iload 4, 2) := by decide +kernel
theorem dL_law_773 : decode cL_law 773 = .ok (.iconst 2, 1) := by decide +kernel
theorem dL_law_774 : decode cL_law 774 = .ok (.iadd, 1) := by decide +kernel
theorem dL_law_775 : decode cL_law 775 = .ok (.iaload, 1) := by decide +kernel
theorem dL_law_776 : decode cL_law 776 = .ok (.invokevirtual 102, 3) := by decide +kernel
theorem dL_law_779 : decode cL_law 779 = .ok (.if_icmp .eq 92, 3) := by decide +kernel
theorem dL_law_782 : decode cL_law 782 = .ok (.iconst 0, 1) := by decide +kernel
theorem dL_law_783 : decode cL_law 783 = .ok (.ireturn, 1) := by decide +kernel
theorem dL_law_784 : decode cL_law 784 = .ok (.aload_n 1, 1) := by decide +kernel
theorem dL_law_785 : decode cL_law 785 = .ok (.aload_n 0, 1) := by decide +kernel
theorem dL_law_786 : decode cL_law 786 = .ok (.iload 4, 2) := by decide +kernel
theorem dL_law_788 : decode cL_law 788 = .ok (.iconst 1, 1) := by decide +kernel
theorem dL_law_789 : decode cL_law 789 = .ok (.iadd, 1) := by decide +kernel
theorem dL_law_790 : decode cL_law 790 = .ok (.iaload, 1) := by decide +kernel
theorem dL_law_791 : decode cL_law 791 = .ok (.aload_n 0, 1) := by decide +kernel
theorem dL_law_792 : decode cL_law 792 = .ok (.iload 4, 2) := by decide +kernel
theorem dL_law_794 : decode cL_law 794 = .ok (.iconst 2, 1) := by decide +kernel
theorem dL_law_795 : decode cL_law 795 = .ok (.iadd, 1) := by decide +kernel
theorem dL_law_796 : decode cL_law 796 = .ok (.iaload, 1) := by decide +kernel
theorem dL_law_797 : decode cL_law 797 = .ok (.invokevirtual 103, 3) := by decide +kernel
theorem dL_law_800 : decode cL_law 800 = .ok (.aload_n 2, 1) := by decide +kernel
theorem dL_law_801 : decode cL_law 801 = .ok (.aload_n 0, 1) := by decide +kernel
theorem dL_law_802 : decode cL_law 802 = .ok (.iload 4, 2) := by decide +kernel
theorem dL_law_804 : decode cL_law 804 = .ok (.iconst 1, 1) := by decide +kernel
theorem dL_law_805 : decode cL_law 805 = .ok (.iadd, 1) := by decide +kernel
theorem dL_law_806 : decode cL_law 806 = .ok (.iaload, 1) := by decide +kernel
theorem dL_law_807 : decode cL_law 807 = .ok (.aload_n 0, 1) := by decide +kernel
theorem dL_law_808 : decode cL_law 808 = .ok (.iload 4, 2) := by decide +kernel
theorem dL_law_810 : decode cL_law 810 = .ok (.iconst 2, 1) := by decide +kernel
theorem dL_law_811 : decode cL_law 811 = .ok (.iadd, 1) := by decide +kernel
theorem dL_law_812 : decode cL_law 812 = .ok (.iaload, 1) := by decide +kernel
theorem dL_law_813 : decode cL_law 813 = .ok (.invokevirtual 106, 3) := by decide +kernel
theorem dL_law_816 : decode cL_law 816 = .ok (.if_icmp .eq 55, 3) := by decide +kernel
theorem dL_law_819 : decode cL_law 819 = .ok (.iconst 0, 1) := by decide +kernel
theorem dL_law_820 : decode cL_law 820 = .ok (.ireturn, 1) := by decide +kernel
theorem dL_law_821 : decode cL_law 821 = .ok (.aload_n 1, 1) := by decide +kernel
theorem dL_law_822 : decode cL_law 822 = .ok (.aload_n 0, 1) := by decide +kernel
theorem dL_law_823 : decode cL_law 823 = .ok (.iload 4, 2) := by decide +kernel
theorem dL_law_825 : decode cL_law 825 = .ok (.iconst 1, 1) := by decide +kernel
theorem dL_law_826 : decode cL_law 826 = .ok (.iadd, 1) := by decide +kernel
theorem dL_law_827 : decode cL_law 827 = .ok (.iaload, 1) := by decide +kernel
theorem dL_law_828 : decode cL_law 828 = .ok (.aload_n 0, 1) := by decide +kernel
theorem dL_law_829 : decode cL_law 829 = .ok (.iload 4, 2) := by decide +kernel
theorem dL_law_831 : decode cL_law 831 = .ok (.iconst 2, 1) := by decide +kernel
theorem dL_law_832 : decode cL_law 832 = .ok (.iadd, 1) := by decide +kernel
theorem dL_law_833 : decode cL_law 833 = .ok (.iaload, 1) := by decide +kernel
theorem dL_law_834 : decode cL_law 834 = .ok (.invokevirtual 107, 3) := by decide +kernel
theorem dL_law_837 : decode cL_law 837 = .ok (.aload_n 2, 1) := by decide +kernel
theorem dL_law_838 : decode cL_law 838 = .ok (.aload_n 0, 1) := by decide +kernel
theorem dL_law_839 : decode cL_law 839 = .ok (.iload 4, 2) := by decide +kernel
theorem dL_law_841 : decode cL_law 841 = .ok (.iconst 1, 1) := by decide +kernel
theorem dL_law_842 : decode cL_law 842 = .ok (.iadd, 1) := by decide +kernel
theorem dL_law_843 : decode cL_law 843 = .ok (.iaload, 1) := by decide +kernel
theorem dL_law_844 : decode cL_law 844 = .ok (.aload_n 0, 1) := by decide +kernel
theorem dL_law_845 : decode cL_law 845 = .ok (.iload 4, 2) := by decide +kernel
theorem dL_law_847 : decode cL_law 847 = .ok (.iconst 2, 1) := by decide +kernel
theorem dL_law_848 : decode cL_law 848 = .ok (.iadd, 1) := by decide +kernel
theorem dL_law_849 : decode cL_law 849 = .ok (.iaload, 1) := by decide +kernel
theorem dL_law_850 : decode cL_law 850 = .ok (.invokevirtual 110, 3) := by decide +kernel
theorem dL_law_853 : decode cL_law 853 = .ok (.if_icmp .eq 18, 3) := by decide +kernel
theorem dL_law_856 : decode cL_law 856 = .ok (.iconst 0, 1) := by decide +kernel
theorem dL_law_857 : decode cL_law 857 = .ok (.ireturn, 1) := by decide +kernel
theorem dL_law_858 : decode cL_law 858 = .ok (.aload_n 1, 1) := by decide +kernel
theorem dL_law_859 : decode cL_law 859 = .ok (.invokevirtual 111, 3) := by decide +kernel
theorem dL_law_862 : decode cL_law 862 = .ok (.aload_n 2, 1) := by decide +kernel
theorem dL_law_863 : decode cL_law 863 = .ok (.invokevirtual 114, 3) := by decide +kernel
theorem dL_law_866 : decode cL_law 866 = .ok (.if_icmp .eq 5, 3) := by decide +kernel
theorem dL_law_869 : decode cL_law 869 = .ok (.iconst 0, 1) := by decide +kernel
theorem dL_law_870 : decode cL_law 870 = .ok (.ireturn, 1) := by decide +kernel
theorem dL_law_871 : decode cL_law 871 = .ok (.iinc 4 6, 3) := by decide +kernel
theorem dL_law_874 : decode cL_law 874 = .ok (.goto (-851), 3) := by decide +kernel
theorem dL_law_877 : decode cL_law 877 = .ok (.iconst 1, 1) := by decide +kernel
theorem dL_law_878 : decode cL_law 878 = .ok (.ireturn, 1) := by decide +kernel
