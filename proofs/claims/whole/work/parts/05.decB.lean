theorem dX6_init_0 : decode cX6_init 0 = .ok (.aload_n 0, 1) := by decide +kernel
theorem dX6_init_1 : decode cX6_init 1 = .ok (.invokespecial 1, 3) := by decide +kernel
theorem dX6_init_4 : decode cX6_init 4 = .ok (.aload_n 0, 1) := by decide +kernel
theorem dX6_init_5 : decode cX6_init 5 = .ok (.sipush 800, 3) := by decide +kernel
theorem dX6_init_8 : decode cX6_init 8 = .ok (.newarray .byte, 2) := by decide +kernel
theorem dX6_init_10 : decode cX6_init 10 = .ok (.putfield 9, 3) := by decide +kernel
theorem dX6_init_13 : decode cX6_init 13 = .ok (.aload_n 0, 1) := by decide +kernel
theorem dX6_init_14 : decode cX6_init 14 = .ok (.bipush 12, 2) := by decide +kernel
theorem dX6_init_16 : decode cX6_init 16 = .ok (.anewarray 13, 3) := by decide +kernel
theorem dX6_init_19 : decode cX6_init 19 = .ok (.putfield 15, 3) := by decide +kernel
theorem dX6_init_22 : decode cX6_init 22 = .ok (.aload_n 0, 1) := by decide +kernel
theorem dX6_init_23 : decode cX6_init 23 = .ok (.new 13, 3) := by decide +kernel
theorem dX6_init_26 : decode cX6_init 26 = .ok (.dup, 1) := by decide +kernel
theorem dX6_init_27 : decode cX6_init 27 = .ok (.invokespecial 19, 3) := by decide +kernel
theorem dX6_init_30 : decode cX6_init 30 = .ok (.putfield 20, 3) := by decide +kernel
theorem dX6_init_33 : decode cX6_init 33 = .ok (.aload_n 0, 1) := by decide +kernel
theorem dX6_init_34 : decode cX6_init 34 = .ok (.new 24, 3) := by decide +kernel
theorem dX6_init_37 : decode cX6_init 37 = .ok (.dup, 1) := by decide +kernel
theorem dX6_init_38 : decode cX6_init 38 = .ok (.invokespecial 26, 3) := by decide +kernel
theorem dX6_init_41 : decode cX6_init 41 = .ok (.putfield 27, 3) := by decide +kernel
theorem dX6_init_44 : decode cX6_init 44 = .ok (.aload_n 0, 1) := by decide +kernel
theorem dX6_init_45 : decode cX6_init 45 = .ok (.iconst (-1), 1) := by decide +kernel
theorem dX6_init_46 : decode cX6_init 46 = .ok (.putfield 31, 3) := by decide +kernel
theorem dX6_init_49 : decode cX6_init 49 = .ok (.aload_n 0, 1) := by decide +kernel
theorem dX6_init_50 : decode cX6_init 50 = .ok (.iconst 5, 1) := by decide +kernel
theorem dX6_init_51 : decode cX6_init 51 = .ok (.putfield 35, 3) := by decide +kernel
theorem dX6_init_54 : decode cX6_init 54 = .ok (.aload_n 0, 1) := by decide +kernel
theorem dX6_init_55 : decode cX6_init 55 = .ok (.iconst 2, 1) := by decide +kernel
theorem dX6_init_56 : decode cX6_init 56 = .ok (.putfield 38, 3) := by decide +kernel
theorem dX6_init_59 : decode cX6_init 59 = .ok (.aload_n 0, 1) := by decide +kernel
theorem dX6_init_60 : decode cX6_init 60 = .ok (.bipush 16, 2) := by decide +kernel
theorem dX6_init_62 : decode cX6_init 62 = .ok (.anewarray 41, 3) := by decide +kernel
theorem dX6_init_65 : decode cX6_init 65 = .ok (.putfield 43, 3) := by decide +kernel
theorem dX6_init_68 : decode cX6_init 68 = .ok (.aload_n 0, 1) := by decide +kernel
theorem dX6_init_69 : decode cX6_init 69 = .ok (.bipush 16, 2) := by decide +kernel
theorem dX6_init_71 : decode cX6_init 71 = .ok (.anewarray 47, 3) := by decide +kernel
theorem dX6_init_74 : decode cX6_init 74 = .ok (.putfield 49, 3) := by decide +kernel
theorem dX6_init_77 : decode cX6_init 77 = .ok (.aload_n 0, 1) := by decide +kernel
theorem dX6_init_78 : decode cX6_init 78 = .ok (.new 53, 3) := by decide +kernel
theorem dX6_init_81 : decode cX6_init 81 = .ok (.dup, 1) := by decide +kernel
theorem dX6_init_82 : decode cX6_init 82 = .ok (.invokespecial 55, 3) := by decide +kernel
theorem dX6_init_85 : decode cX6_init 85 = .ok (.putfield 56, 3) := by decide +kernel
theorem dX6_init_88 : decode cX6_init 88 = .ok (.aload_n 0, 1) := by decide +kernel
theorem dX6_init_89 : decode cX6_init 89 = .ok (.iconst (-1), 1) := by decide +kernel
theorem dX6_init_90 : decode cX6_init 90 = .ok (.putfield 60, 3) := by decide +kernel
theorem dX6_init_93 : decode cX6_init 93 = .ok (.aload_n 0, 1) := by decide +kernel
theorem dX6_init_94 : decode cX6_init 94 = .ok (.new 63, 3) := by decide +kernel
theorem dX6_init_97 : decode cX6_init 97 = .ok (.dup, 1) := by decide +kernel
theorem dX6_init_98 : decode cX6_init 98 = .ok (.invokespecial 65, 3) := by decide +kernel
theorem dX6_init_101 : decode cX6_init 101 = .ok (.putfield 66, 3) := by decide +kernel
theorem dX6_init_104 : decode cX6_init 104 = .ok (.aload_n 0, 1) := by decide +kernel
theorem dX6_init_105 : decode cX6_init 105 = .ok (.sipush 200, 3) := by decide +kernel
theorem dX6_init_108 : decode cX6_init 108 = .ok (.newarray .int, 2) := by decide +kernel
theorem dX6_init_110 : decode cX6_init 110 = .ok (.putfield 70, 3) := by decide +kernel
theorem dX6_init_113 : decode cX6_init 113 = .ok (.aload_n 0, 1) := by decide +kernel
theorem dX6_init_114 : decode cX6_init 114 = .ok (.sipush 200, 3) := by decide +kernel
theorem dX6_init_117 : decode cX6_init 117 = .ok (.newarray .int, 2) := by decide +kernel
theorem dX6_init_119 : decode cX6_init 119 = .ok (.putfield 74, 3) := by decide +kernel
theorem dX6_init_122 : decode cX6_init 122 = .ok (.iconst 0, 1) := by decide +kernel
theorem dX6_init_123 : decode cX6_init 123 = .ok (.istore_n 1, 1) := by decide +kernel
theorem dX6_init_124 : decode cX6_init 124 = .ok (.iload_n 1, 1) := by decide +kernel
theorem dX6_init_125 : decode cX6_init 125 = .ok (.bipush 12, 2) := by decide +kernel
theorem dX6_init_127 : decode cX6_init 127 = .ok (.if_icmp .ge 22, 3) := by decide +kernel
theorem dX6_init_130 : decode cX6_init 130 = .ok (.aload_n 0, 1) := by decide +kernel
theorem dX6_init_131 : decode cX6_init 131 = .ok (.getfield 15, 3) := by decide +kernel
theorem dX6_init_134 : decode cX6_init 134 = .ok (.iload_n 1, 1) := by decide +kernel
theorem dX6_init_135 : decode cX6_init 135 = .ok (.new 13, 3) := by decide +kernel
theorem dX6_init_138 : decode cX6_init 138 = .ok (.dup, 1) := by decide +kernel
theorem dX6_init_139 : decode cX6_init 139 = .ok (.invokespecial 19, 3) := by decide +kernel
theorem dX6_init_142 : decode cX6_init 142 = .ok (.aastore, 1) := by decide +kernel
theorem dX6_init_143 : decode cX6_init 143 = .ok (.iinc 1 1, 3) := by decide +kernel
theorem dX6_init_146 : decode cX6_init 146 = .ok (.goto (-22), 3) := by decide +kernel
theorem dX6_init_149 : decode cX6_init 149 = .ok (.iconst 0, 1) := by decide +kernel
theorem dX6_init_150 : decode cX6_init 150 = .ok (.istore_n 1, 1) := by decide +kernel
theorem dX6_init_151 : decode cX6_init 151 = .ok (.iload_n 1, 1) := by decide +kernel
theorem dX6_init_152 : decode cX6_init 152 = .ok (.bipush 16, 2) := by decide +kernel
theorem dX6_init_154 : decode cX6_init 154 = .ok (.if_icmp .ge 35, 3) := by decide +kernel
theorem dX6_init_157 : decode cX6_init 157 = .ok (.aload_n 0, 1) := by decide +kernel
theorem dX6_init_158 : decode cX6_init 158 = .ok (.getfield 43, 3) := by decide +kernel
theorem dX6_init_161 : decode cX6_init 161 = .ok (.iload_n 1, 1) := by decide +kernel
theorem dX6_init_162 : decode cX6_init 162 = .ok (.new 41, 3) := by decide +kernel
theorem dX6_init_165 : decode cX6_init 165 = .ok (.dup, 1) := by decide +kernel
theorem dX6_init_166 : decode cX6_init 166 = .ok (.invokespecial 77, 3) := by decide +kernel
theorem dX6_init_169 : decode cX6_init 169 = .ok (.aastore, 1) := by decide +kernel
theorem dX6_init_170 : decode cX6_init 170 = .ok (.aload_n 0, 1) := by decide +kernel
theorem dX6_init_171 : decode cX6_init 171 = .ok (.getfield 49, 3) := by decide +kernel
theorem dX6_init_174 : decode cX6_init 174 = .ok (.iload_n 1, 1) := by decide +kernel
theorem dX6_init_175 : decode cX6_init 175 = .ok (.new 47, 3) := by decide +kernel
theorem dX6_init_178 : decode cX6_init 178 = .ok (.dup, 1) := by decide +kernel
theorem dX6_init_179 : decode cX6_init 179 = .ok (.invokespecial 78, 3) := by decide +kernel
theorem dX6_init_182 : decode cX6_init 182 = .ok (.aastore, 1) := by decide +kernel
theorem dX6_init_183 : decode cX6_init 183 = .ok (.iinc 1 1, 3) := by decide +kernel
theorem dX6_init_186 : decode cX6_init 186 = .ok (.goto (-35), 3) := by decide +kernel
theorem dX6_init_189 : decode cX6_init 189 = .ok (.return_, 1) := by decide +kernel
theorem dX6_feed_0 : decode cX6_feed 0 = .ok (.aload_n 0, 1) := by decide +kernel
theorem dX6_feed_1 : decode cX6_feed 1 = .ok (.getfield 79, 3) := by decide +kernel
theorem dX6_feed_4 : decode cX6_feed 4 = .ok (.bipush 20, 2) := by decide +kernel
theorem dX6_feed_6 : decode cX6_feed 6 = .ok (.iadd, 1) := by decide +kernel
theorem dX6_feed_7 : decode cX6_feed 7 = .ok (.sipush 800, 3) := by decide +kernel
theorem dX6_feed_10 : decode cX6_feed 10 = .ok (.if_icmp .le 5, 3) := by decide +kernel
theorem dX6_feed_13 : decode cX6_feed 13 = .ok (.iconst (-1), 1) := by decide +kernel
theorem dX6_feed_14 : decode cX6_feed 14 = .ok (.ireturn, 1) := by decide +kernel
theorem dX6_feed_15 : decode cX6_feed 15 = .ok (.aload_n 0, 1) := by decide +kernel
theorem dX6_feed_16 : decode cX6_feed 16 = .ok (.iload_n 1, 1) := by decide +kernel
theorem dX6_feed_17 : decode cX6_feed 17 = .ok (.invokevirtual 82, 3) := by decide +kernel
theorem dX6_feed_20 : decode cX6_feed 20 = .ok (.aload_n 0, 1) := by decide +kernel
theorem dX6_feed_21 : decode cX6_feed 21 = .ok (.iload_n 2, 1) := by decide +kernel
theorem dX6_feed_22 : decode cX6_feed 22 = .ok (.invokevirtual 82, 3) := by decide +kernel
theorem dX6_feed_25 : decode cX6_feed 25 = .ok (.aload_n 0, 1) := by decide +kernel
theorem dX6_feed_26 : decode cX6_feed 26 = .ok (.iload_n 3, 1) := by decide +kernel
theorem dX6_feed_27 : decode cX6_feed 27 = .ok (.invokevirtual 82, 3) := by decide +kernel
theorem dX6_feed_30 : decode cX6_feed 30 = .ok (.aload_n 0, 1) := by decide +kernel
theorem dX6_feed_31 : decode cX6_feed 31 = .ok (.iload 4, 2) := by decide +kernel
theorem dX6_feed_33 : decode cX6_feed 33 = .ok (.invokevirtual 82, 3) := by decide +kernel
theorem dX6_feed_36 : decode cX6_feed 36 = .ok (.aload_n 0, 1) := by decide +kernel
theorem dX6_feed_37 : decode cX6_feed 37 = .ok (.iload 5, 2) := by decide +kernel
theorem dX6_feed_39 : decode cX6_feed 39 = .ok (.invokevirtual 82, 3) := by decide +kernel
theorem dX6_feed_42 : decode cX6_feed 42 = .ok (.aload_n 0, 1) := by decide +kernel
theorem dX6_feed_43 : decode cX6_feed 43 = .ok (.getfield 79, 3) := by decide +kernel
theorem dX6_feed_46 : decode cX6_feed 46 = .ok (.ireturn, 1) := by decide +kernel
theorem dX6_tapeNumber_0 : decode cX6_tapeNumber 0 = .ok (.bipush 24, 2) := by decide +kernel
theorem dX6_tapeNumber_2 : decode cX6_tapeNumber 2 = .ok (.istore_n 2, 1) := by decide +kernel
theorem dX6_tapeNumber_3 : decode cX6_tapeNumber 3 = .ok (.iload_n 2, 1) := by decide +kernel
theorem dX6_tapeNumber_4 : decode cX6_tapeNumber 4 = .ok (.ifCond .lt 44, 3) := by decide +kernel
theorem dX6_tapeNumber_7 : decode cX6_tapeNumber 7 = .ok (.aload_n 0, 1) := by decide +kernel
theorem dX6_tapeNumber_8 : decode cX6_tapeNumber 8 = .ok (.getfield 79, 3) := by decide +kernel
theorem dX6_tapeNumber_11 : decode cX6_tapeNumber 11 = .ok (.aload_n 0, 1) := by decide +kernel
theorem dX6_tapeNumber_12 : decode cX6_tapeNumber 12 = .ok (.getfield 9, 3) := by decide +kernel
theorem dX6_tapeNumber_15 : decode cX6_tapeNumber 15 = .ok (.arraylength, 1) := by decide +kernel
theorem dX6_tapeNumber_16 : decode cX6_tapeNumber 16 = .ok (.if_icmp .ge 26, 3) := by decide +kernel
theorem dX6_tapeNumber_19 : decode cX6_tapeNumber 19 = .ok (.aload_n 0, 1) := by decide +kernel
theorem dX6_tapeNumber_20 : decode cX6_tapeNumber 20 = .ok (.getfield 9, 3) := by decide +kernel
theorem dX6_tapeNumber_23 : decode cX6_tapeNumber 23 = .ok (.aload_n 0, 1) := by decide +kernel
theorem dX6_tapeNumber_24 : decode cX6_tapeNumber 24 = .ok (.getfield 79, 3) := by decide +kernel
theorem dX6_tapeNumber_27 : decode cX6_tapeNumber 27 = .ok (.iload_n 1, 1) := by decide +kernel
theorem dX6_tapeNumber_28 : decode cX6_tapeNumber 28 = .ok (.iload_n 2, 1) := by decide +kernel
theorem dX6_tapeNumber_29 : decode cX6_tapeNumber 29 = .ok (.ishr, 1) := by decide +kernel
theorem dX6_tapeNumber_30 : decode cX6_tapeNumber 30 = .ok (.i2b, 1) := by decide +kernel
theorem dX6_tapeNumber_31 : decode cX6_tapeNumber 31 = .ok (.bastore, 1) := by decide +kernel
theorem dX6_tapeNumber_32 : decode cX6_tapeNumber 32 = .ok (.aload_n 0, 1) := by decide +kernel
theorem dX6_tapeNumber_33 : decode cX6_tapeNumber 33 = .ok (.dup, 1) := by decide +kernel
theorem dX6_tapeNumber_34 : decode cX6_tapeNumber 34 = .ok (.getfield 79, 3) := by decide +kernel
theorem dX6_tapeNumber_37 : decode cX6_tapeNumber 37 = .ok (.iconst 1, 1) := by decide +kernel
theorem dX6_tapeNumber_38 : decode cX6_tapeNumber 38 = .ok (.iadd, 1) := by decide +kernel
theorem dX6_tapeNumber_39 : decode cX6_tapeNumber 39 = .ok (.putfield 79, 3) := by decide +kernel
theorem dX6_tapeNumber_42 : decode cX6_tapeNumber 42 = .ok (.iinc 2 (-8), 3) := by decide +kernel
theorem dX6_tapeNumber_45 : decode cX6_tapeNumber 45 = .ok (.goto (-42), 3) := by decide +kernel
theorem dX6_tapeNumber_48 : decode cX6_tapeNumber 48 = .ok (.return_, 1) := by decide +kernel
theorem dX6_text_0 : decode cX6_text 0 = .ok (.iload_n 1, 1) := by decide +kernel
theorem dX6_text_1 : decode cX6_text 1 = .ok (.invokestatic 86, 3) := by decide +kernel
theorem dX6_text_4 : decode cX6_text 4 = .ok (.ifCond .eq 24, 3) := by decide +kernel
theorem dX6_text_7 : decode cX6_text 7 = .ok (.iload_n 2, 1) := by decide +kernel
theorem dX6_text_8 : decode cX6_text 8 = .ok (.ifCond .lt 20, 3) := by decide +kernel
theorem dX6_text_11 : decode cX6_text 11 = .ok (.iload_n 2, 1) := by decide +kernel
theorem dX6_text_12 : decode cX6_text 12 = .ok (.iconst 4, 1) := by decide +kernel
theorem dX6_text_13 : decode cX6_text 13 = .ok (.if_icmp .ge 15, 3) := by decide +kernel
theorem dX6_text_16 : decode cX6_text 16 = .ok (.iload_n 3, 1) := by decide +kernel
theorem dX6_text_17 : decode cX6_text 17 = .ok (.ifCond .lt 11, 3) := by decide +kernel
theorem dX6_text_20 : decode cX6_text 20 = .ok (.iload_n 3, 1) := by decide +kernel
theorem dX6_text_21 : decode cX6_text 21 = .ok (.aload_n 0, 1) := by decide +kernel
theorem dX6_text_22 : decode cX6_text 22 = .ok (.getfield 79, 3) := by decide +kernel
theorem dX6_text_25 : decode cX6_text 25 = .ok (.if_icmp .le 11, 3) := by decide +kernel
theorem dX6_text_28 : decode cX6_text 28 = .ok (.new 90, 3) := by decide +kernel
theorem dX6_text_31 : decode cX6_text 31 = .ok (.dup, 1) := by decide +kernel
theorem dX6_text_32 : decode cX6_text 32 = .ok (.invokespecial 92, 3) := by decide +kernel
theorem dX6_text_35 : decode cX6_text 35 = .ok (.athrow, 1) := by decide +kernel
theorem dX6_text_36 : decode cX6_text 36 = .ok (.aload_n 0, 1) := by decide +kernel
theorem dX6_text_37 : decode cX6_text 37 = .ok (.iconst 0, 1) := by decide +kernel
theorem dX6_text_38 : decode cX6_text 38 = .ok (.putfield 79, 3) := by decide +kernel
theorem dX6_text_41 : decode cX6_text 41 = .ok (.aload_n 0, 1) := by decide +kernel
theorem dX6_text_42 : decode cX6_text 42 = .ok (.aload_n 0, 1) := by decide +kernel
theorem dX6_text_43 : decode cX6_text 43 = .ok (.iload_n 1, 1) := by decide +kernel
theorem dX6_text_44 : decode cX6_text 44 = .ok (.iload_n 2, 1) := by decide +kernel
theorem dX6_text_45 : decode cX6_text 45 = .ok (.aload_n 0, 1) := by decide +kernel
theorem dX6_text_46 : decode cX6_text 46 = .ok (.getfield 9, 3) := by decide +kernel
theorem dX6_text_49 : decode cX6_text 49 = .ok (.iload_n 3, 1) := by decide +kernel
theorem dX6_text_50 : decode cX6_text 50 = .ok (.invokevirtual 93, 3) := by decide +kernel
theorem dX6_text_53 : decode cX6_text 53 = .ok (.putfield 97, 3) := by decide +kernel
theorem dX6_text_56 : decode cX6_text 56 = .ok (.aload_n 0, 1) := by decide +kernel
theorem dX6_text_57 : decode cX6_text 57 = .ok (.aload_n 0, 1) := by decide +kernel
theorem dX6_text_58 : decode cX6_text 58 = .ok (.getfield 27, 3) := by decide +kernel
theorem dX6_text_61 : decode cX6_text 61 = .ok (.getfield 100, 3) := by decide +kernel
theorem dX6_text_64 : decode cX6_text 64 = .ok (.putfield 31, 3) := by decide +kernel
theorem dX6_text_67 : decode cX6_text 67 = .ok (.aload_n 0, 1) := by decide +kernel
theorem dX6_text_68 : decode cX6_text 68 = .ok (.getfield 97, 3) := by decide +kernel
theorem dX6_text_71 : decode cX6_text 71 = .ok (.ireturn, 1) := by decide +kernel
theorem dX6_replaceText_0 : decode cX6_replaceText 0 = .ok (.aload_n 0, 1) := by decide +kernel
theorem dX6_replaceText_1 : decode cX6_replaceText 1 = .ok (.getfield 20, 3) := by decide +kernel
theorem dX6_replaceText_4 : decode cX6_replaceText 4 = .ok (.aload_n 3, 1) := by decide +kernel
theorem dX6_replaceText_5 : decode cX6_replaceText 5 = .ok (.iload 4, 2) := by decide +kernel
theorem dX6_replaceText_7 : decode cX6_replaceText 7 = .ok (.iload_n 2, 1) := by decide +kernel
theorem dX6_replaceText_8 : decode cX6_replaceText 8 = .ok (.invokevirtual 103, 3) := by decide +kernel
theorem dX6_replaceText_11 : decode cX6_replaceText 11 = .ok (.aload_n 0, 1) := by decide +kernel
theorem dX6_replaceText_12 : decode cX6_replaceText 12 = .ok (.getfield 27, 3) := by decide +kernel
theorem dX6_replaceText_15 : decode cX6_replaceText 15 = .ok (.aload_n 0, 1) := by decide +kernel
theorem dX6_replaceText_16 : decode cX6_replaceText 16 = .ok (.getfield 20, 3) := by decide +kernel
theorem dX6_replaceText_19 : decode cX6_replaceText 19 = .ok (.invokevirtual 107, 3) := by decide +kernel
theorem dX6_replaceText_22 : decode cX6_replaceText 22 = .ok (.istore 5, 2) := by decide +kernel
theorem dX6_replaceText_24 : decode cX6_replaceText 24 = .ok (.iload 5, 2) := by decide +kernel
theorem dX6_replaceText_26 : decode cX6_replaceText 26 = .ok (.ifCond .ne 49, 3) := by decide +kernel
theorem dX6_replaceText_29 : decode cX6_replaceText 29 = .ok (.aload_n 0, 1) := by decide +kernel
theorem dX6_replaceText_30 : decode cX6_replaceText 30 = .ok (.getfield 20, 3) := by decide +kernel
theorem dX6_replaceText_33 : decode cX6_replaceText 33 = .ok (.invokevirtual 111, 3) := by decide +kernel
theorem dX6_replaceText_36 : decode cX6_replaceText 36 = .ok (.aload_n 0, 1) := by decide +kernel
theorem dX6_replaceText_37 : decode cX6_replaceText 37 = .ok (.getfield 15, 3) := by decide +kernel
theorem dX6_replaceText_40 : decode cX6_replaceText 40 = .ok (.iload_n 1, 1) := by decide +kernel
theorem dX6_replaceText_41 : decode cX6_replaceText 41 = .ok (.aaload, 1) := by decide +kernel
theorem dX6_replaceText_42 : decode cX6_replaceText 42 = .ok (.astore 6, 2) := by decide +kernel
theorem dX6_replaceText_44 : decode cX6_replaceText 44 = .ok (.aload_n 0, 1) := by decide +kernel
theorem dX6_replaceText_45 : decode cX6_replaceText 45 = .ok (.getfield 15, 3) := by decide +kernel
theorem dX6_replaceText_48 : decode cX6_replaceText 48 = .ok (.iload_n 1, 1) := by decide +kernel
theorem dX6_replaceText_49 : decode cX6_replaceText 49 = .ok (.aload_n 0, 1) := by decide +kernel
theorem dX6_replaceText_50 : decode cX6_replaceText 50 = .ok (.getfield 20, 3) := by decide +kernel
theorem dX6_replaceText_53 : decode cX6_replaceText 53 = .ok (.aastore, 1) := by decide +kernel
theorem dX6_replaceText_54 : decode cX6_replaceText 54 = .ok (.aload_n 0, 1) := by decide +kernel
theorem dX6_replaceText_55 : decode cX6_replaceText 55 = .ok (.getfield 15, 3) := by decide +kernel
theorem dX6_replaceText_58 : decode cX6_replaceText 58 = .ok (.iload_n 1, 1) := by decide +kernel
theorem dX6_replaceText_59 : decode cX6_replaceText 59 = .ok (.aaload, 1) := by decide +kernel
theorem dX6_replaceText_60 : decode cX6_replaceText 60 = .ok (.iconst 1, 1) := by decide +kernel
theorem dX6_replaceText_61 : decode cX6_replaceText 61 = .ok (.putfield 114, 3) := by decide +kernel
theorem dX6_replaceText_64 : decode cX6_replaceText 64 = .ok (.aload_n 0, 1) := by decide +kernel
theorem dX6_replaceText_65 : decode cX6_replaceText 65 = .ok (.aload 6, 2) := by decide +kernel
theorem dX6_replaceText_67 : decode cX6_replaceText 67 = .ok (.putfield 20, 3) := by decide +kernel
theorem dX6_replaceText_70 : decode cX6_replaceText 70 = .ok (.aload_n 0, 1) := by decide +kernel
theorem dX6_replaceText_71 : decode cX6_replaceText 71 = .ok (.iload_n 1, 1) := by decide +kernel
theorem dX6_replaceText_72 : decode cX6_replaceText 72 = .ok (.invokevirtual 118, 3) := by decide +kernel
theorem dX6_replaceText_75 : decode cX6_replaceText 75 = .ok (.iload 5, 2) := by decide +kernel
theorem dX6_replaceText_77 : decode cX6_replaceText 77 = .ok (.ireturn, 1) := by decide +kernel
theorem dX6_forgetOutOf_0 : decode cX6_forgetOutOf 0 = .ok (.aload_n 0, 1) := by decide +kernel
theorem dX6_forgetOutOf_1 : decode cX6_forgetOutOf 1 = .ok (.getfield 60, 3) := by decide +kernel
theorem dX6_forgetOutOf_4 : decode cX6_forgetOutOf 4 = .ok (.iload_n 1, 1) := by decide +kernel
theorem dX6_forgetOutOf_5 : decode cX6_forgetOutOf 5 = .ok (.if_icmp .ne 8, 3) := by decide +kernel
theorem dX6_forgetOutOf_8 : decode cX6_forgetOutOf 8 = .ok (.aload_n 0, 1) := by decide +kernel
theorem dX6_forgetOutOf_9 : decode cX6_forgetOutOf 9 = .ok (.iconst (-1), 1) := by decide +kernel
theorem dX6_forgetOutOf_10 : decode cX6_forgetOutOf 10 = .ok (.putfield 60, 3) := by decide +kernel
theorem dX6_forgetOutOf_13 : decode cX6_forgetOutOf 13 = .ok (.return_, 1) := by decide +kernel
theorem dX6_fault_0 : decode cX6_fault 0 = .ok (.iload_n 1, 1) := by decide +kernel
theorem dX6_fault_1 : decode cX6_fault 1 = .ok (.lookupswitch 37 #[(0, 27), (1, 32)], 27) := by decide +kernel
theorem dX6_fault_28 : decode cX6_fault 28 = .ok (.aload_n 0, 1) := by decide +kernel
theorem dX6_fault_29 : decode cX6_fault 29 = .ok (.getfield 97, 3) := by decide +kernel
theorem dX6_fault_32 : decode cX6_fault 32 = .ok (.ireturn, 1) := by decide +kernel
theorem dX6_fault_33 : decode cX6_fault 33 = .ok (.aload_n 0, 1) := by decide +kernel
theorem dX6_fault_34 : decode cX6_fault 34 = .ok (.getfield 31, 3) := by decide +kernel
theorem dX6_fault_37 : decode cX6_fault 37 = .ok (.ireturn, 1) := by decide +kernel
theorem dX6_fault_38 : decode cX6_fault 38 = .ok (.new 121, 3) := by decide +kernel
theorem dX6_fault_41 : decode cX6_fault 41 = .ok (.dup, 1) := by decide +kernel
theorem dX6_fault_42 : decode cX6_fault 42 = .ok (.invokespecial 123, 3) := by decide +kernel
theorem dX6_fault_45 : decode cX6_fault 45 = .ok (.athrow, 1) := by decide +kernel
theorem dX6_drop_0 : decode cX6_drop 0 = .ok (.iload_n 1, 1) := by decide +kernel
theorem dX6_drop_1 : decode cX6_drop 1 = .ok (.invokestatic 86, 3) := by decide +kernel
theorem dX6_drop_4 : decode cX6_drop 4 = .ok (.ifCond .ne 11, 3) := by decide +kernel
theorem dX6_drop_7 : decode cX6_drop 7 = .ok (.new 90, 3) := by decide +kernel
theorem dX6_drop_10 : decode cX6_drop 10 = .ok (.dup, 1) := by decide +kernel
theorem dX6_drop_11 : decode cX6_drop 11 = .ok (.invokespecial 92, 3) := by decide +kernel
theorem dX6_drop_14 : decode cX6_drop 14 = .ok (.athrow, 1) := by decide +kernel
theorem dX6_drop_15 : decode cX6_drop 15 = .ok (.aload_n 0, 1) := by decide +kernel
theorem dX6_drop_16 : decode cX6_drop 16 = .ok (.getfield 15, 3) := by decide +kernel
theorem dX6_drop_19 : decode cX6_drop 19 = .ok (.iload_n 1, 1) := by decide +kernel
theorem dX6_drop_20 : decode cX6_drop 20 = .ok (.aaload, 1) := by decide +kernel
theorem dX6_drop_21 : decode cX6_drop 21 = .ok (.getfield 114, 3) := by decide +kernel
theorem dX6_drop_24 : decode cX6_drop 24 = .ok (.istore_n 2, 1) := by decide +kernel
theorem dX6_drop_25 : decode cX6_drop 25 = .ok (.aload_n 0, 1) := by decide +kernel
theorem dX6_drop_26 : decode cX6_drop 26 = .ok (.getfield 15, 3) := by decide +kernel
theorem dX6_drop_29 : decode cX6_drop 29 = .ok (.iload_n 1, 1) := by decide +kernel
theorem dX6_drop_30 : decode cX6_drop 30 = .ok (.aaload, 1) := by decide +kernel
theorem dX6_drop_31 : decode cX6_drop 31 = .ok (.iconst 0, 1) := by decide +kernel
theorem dX6_drop_32 : decode cX6_drop 32 = .ok (.putfield 114, 3) := by decide +kernel
theorem dX6_drop_35 : decode cX6_drop 35 = .ok (.aload_n 0, 1) := by decide +kernel
theorem dX6_drop_36 : decode cX6_drop 36 = .ok (.iload_n 1, 1) := by decide +kernel
theorem dX6_drop_37 : decode cX6_drop 37 = .ok (.invokevirtual 118, 3) := by decide +kernel
theorem dX6_drop_40 : decode cX6_drop 40 = .ok (.iload_n 2, 1) := by decide +kernel
theorem dX6_drop_41 : decode cX6_drop 41 = .ok (.ireturn, 1) := by decide +kernel
theorem dX6_isTextNumber_0 : decode cX6_isTextNumber 0 = .ok (.iload_n 0, 1) := by decide +kernel
theorem dX6_isTextNumber_1 : decode cX6_isTextNumber 1 = .ok (.ifCond .lt 13, 3) := by decide +kernel
theorem dX6_isTextNumber_4 : decode cX6_isTextNumber 4 = .ok (.iload_n 0, 1) := by decide +kernel
theorem dX6_isTextNumber_5 : decode cX6_isTextNumber 5 = .ok (.bipush 12, 2) := by decide +kernel
theorem dX6_isTextNumber_7 : decode cX6_isTextNumber 7 = .ok (.if_icmp .ge 7, 3) := by decide +kernel
theorem dX6_isTextNumber_10 : decode cX6_isTextNumber 10 = .ok (.iconst 1, 1) := by decide +kernel
theorem dX6_isTextNumber_11 : decode cX6_isTextNumber 11 = .ok (.goto 4, 3) := by decide +kernel
theorem dX6_isTextNumber_14 : decode cX6_isTextNumber 14 = .ok (.iconst 0, 1) := by decide +kernel
theorem dX6_isTextNumber_15 : decode cX6_isTextNumber 15 = .ok (.ireturn, 1) := by decide +kernel
theorem dX6_existing_0 : decode cX6_existing 0 = .ok (.iload_n 1, 1) := by decide +kernel
theorem dX6_existing_1 : decode cX6_existing 1 = .ok (.invokestatic 86, 3) := by decide +kernel
theorem dX6_existing_4 : decode cX6_existing 4 = .ok (.ifCond .eq 15, 3) := by decide +kernel
theorem dX6_existing_7 : decode cX6_existing 7 = .ok (.aload_n 0, 1) := by decide +kernel
theorem dX6_existing_8 : decode cX6_existing 8 = .ok (.getfield 15, 3) := by decide +kernel
theorem dX6_existing_11 : decode cX6_existing 11 = .ok (.iload_n 1, 1) := by decide +kernel
theorem dX6_existing_12 : decode cX6_existing 12 = .ok (.aaload, 1) := by decide +kernel
theorem dX6_existing_13 : decode cX6_existing 13 = .ok (.getfield 114, 3) := by decide +kernel
theorem dX6_existing_16 : decode cX6_existing 16 = .ok (.ifCond .ne 11, 3) := by decide +kernel
theorem dX6_existing_19 : decode cX6_existing 19 = .ok (.new 121, 3) := by decide +kernel
theorem dX6_existing_22 : decode cX6_existing 22 = .ok (.dup, 1) := by decide +kernel
theorem dX6_existing_23 : decode cX6_existing 23 = .ok (.invokespecial 123, 3) := by decide +kernel
theorem dX6_existing_26 : decode cX6_existing 26 = .ok (.athrow, 1) := by decide +kernel
theorem dX6_existing_27 : decode cX6_existing 27 = .ok (.aload_n 0, 1) := by decide +kernel
theorem dX6_existing_28 : decode cX6_existing 28 = .ok (.getfield 15, 3) := by decide +kernel
theorem dX6_existing_31 : decode cX6_existing 31 = .ok (.iload_n 1, 1) := by decide +kernel
theorem dX6_existing_32 : decode cX6_existing 32 = .ok (.aaload, 1) := by decide +kernel
theorem dX6_existing_33 : decode cX6_existing 33 = .ok (.areturn, 1) := by decide +kernel
theorem dX6_about_0 : decode cX6_about 0 = .ok (.aload_n 0, 1) := by decide +kernel
theorem dX6_about_1 : decode cX6_about 1 = .ok (.iload_n 1, 1) := by decide +kernel
theorem dX6_about_2 : decode cX6_about 2 = .ok (.invokevirtual 124, 3) := by decide +kernel
theorem dX6_about_5 : decode cX6_about 5 = .ok (.astore_n 3, 1) := by decide +kernel
theorem dX6_about_6 : decode cX6_about 6 = .ok (.iload_n 2, 1) := by decide +kernel
theorem dX6_about_7 : decode cX6_about 7 = .ok (.tableswitch 49 0 3 #[29, 34, 39, 44], 29) := by decide +kernel
theorem dX6_about_36 : decode cX6_about 36 = .ok (.aload_n 3, 1) := by decide +kernel
theorem dX6_about_37 : decode cX6_about 37 = .ok (.getfield 128, 3) := by decide +kernel
theorem dX6_about_40 : decode cX6_about 40 = .ok (.ireturn, 1) := by decide +kernel
theorem dX6_about_41 : decode cX6_about 41 = .ok (.aload_n 3, 1) := by decide +kernel
theorem dX6_about_42 : decode cX6_about 42 = .ok (.getfield 131, 3) := by decide +kernel
theorem dX6_about_45 : decode cX6_about 45 = .ok (.ireturn, 1) := by decide +kernel
theorem dX6_about_46 : decode cX6_about 46 = .ok (.aload_n 3, 1) := by decide +kernel
theorem dX6_about_47 : decode cX6_about 47 = .ok (.getfield 134, 3) := by decide +kernel
theorem dX6_about_50 : decode cX6_about 50 = .ok (.ireturn, 1) := by decide +kernel
theorem dX6_about_51 : decode cX6_about 51 = .ok (.aload_n 3, 1) := by decide +kernel
theorem dX6_about_52 : decode cX6_about 52 = .ok (.getfield 137, 3) := by decide +kernel
theorem dX6_about_55 : decode cX6_about 55 = .ok (.ireturn, 1) := by decide +kernel
theorem dX6_about_56 : decode cX6_about 56 = .ok (.new 121, 3) := by decide +kernel
theorem dX6_about_59 : decode cX6_about 59 = .ok (.dup, 1) := by decide +kernel
theorem dX6_about_60 : decode cX6_about 60 = .ok (.invokespecial 123, 3) := by decide +kernel
theorem dX6_about_63 : decode cX6_about 63 = .ok (.athrow, 1) := by decide +kernel
theorem dX6_gap_0 : decode cX6_gap 0 = .ok (.aload_n 0, 1) := by decide +kernel
theorem dX6_gap_1 : decode cX6_gap 1 = .ok (.iload_n 1, 1) := by decide +kernel
theorem dX6_gap_2 : decode cX6_gap 2 = .ok (.invokevirtual 124, 3) := by decide +kernel
theorem dX6_gap_5 : decode cX6_gap 5 = .ok (.astore 4, 2) := by decide +kernel
theorem dX6_gap_7 : decode cX6_gap 7 = .ok (.iload_n 2, 1) := by decide +kernel
theorem dX6_gap_8 : decode cX6_gap 8 = .ok (.ifCond .lt 12, 3) := by decide +kernel
theorem dX6_gap_11 : decode cX6_gap 11 = .ok (.iload_n 2, 1) := by decide +kernel
theorem dX6_gap_12 : decode cX6_gap 12 = .ok (.aload 4, 2) := by decide +kernel
theorem dX6_gap_14 : decode cX6_gap 14 = .ok (.invokevirtual 140, 3) := by decide +kernel
theorem dX6_gap_17 : decode cX6_gap 17 = .ok (.if_icmp .lt 11, 3) := by decide +kernel
theorem dX6_gap_20 : decode cX6_gap 20 = .ok (.new 121, 3) := by decide +kernel
theorem dX6_gap_23 : decode cX6_gap 23 = .ok (.dup, 1) := by decide +kernel
theorem dX6_gap_24 : decode cX6_gap 24 = .ok (.invokespecial 123, 3) := by decide +kernel
theorem dX6_gap_27 : decode cX6_gap 27 = .ok (.athrow, 1) := by decide +kernel
theorem dX6_gap_28 : decode cX6_gap 28 = .ok (.iload_n 3, 1) := by decide +kernel
theorem dX6_gap_29 : decode cX6_gap 29 = .ok (.tableswitch 64 0 3 #[31, 39, 47, 57], 31) := by decide +kernel
theorem dX6_gap_60 : decode cX6_gap 60 = .ok (.aload 4, 2) := by decide +kernel
theorem dX6_gap_62 : decode cX6_gap 62 = .ok (.getfield 144, 3) := by decide +kernel
theorem dX6_gap_65 : decode cX6_gap 65 = .ok (.iload_n 2, 1) := by decide +kernel
theorem dX6_gap_66 : decode cX6_gap 66 = .ok (.iaload, 1) := by decide +kernel
theorem dX6_gap_67 : decode cX6_gap 67 = .ok (.ireturn, 1) := by decide +kernel
theorem dX6_gap_68 : decode cX6_gap 68 = .ok (.aload 4, 2) := by decide +kernel
theorem dX6_gap_70 : decode cX6_gap 70 = .ok (.getfield 147, 3) := by decide +kernel
theorem dX6_gap_73 : decode cX6_gap 73 = .ok (.iload_n 2, 1) := by decide +kernel
theorem dX6_gap_74 : decode cX6_gap 74 = .ok (.iaload, 1) := by decide +kernel
theorem dX6_gap_75 : decode cX6_gap 75 = .ok (.ireturn, 1) := by decide +kernel
theorem dX6_gap_76 : decode cX6_gap 76 = .ok (.aload 4, 2) := by decide +kernel
theorem dX6_gap_78 : decode cX6_gap 78 = .ok (.getfield 150, 3) := by decide +kernel
theorem dX6_gap_81 : decode cX6_gap 81 = .ok (.iload_n 2, 1) := by decide +kernel
theorem dX6_gap_82 : decode cX6_gap 82 = .ok (.iconst 1, 1) := by decide +kernel
theorem dX6_gap_83 : decode cX6_gap 83 = .ok (.iadd, 1) := by decide +kernel
theorem dX6_gap_84 : decode cX6_gap 84 = .ok (.iaload, 1) := by decide +kernel
theorem dX6_gap_85 : decode cX6_gap 85 = .ok (.ireturn, 1) := by decide +kernel
theorem dX6_gap_86 : decode cX6_gap 86 = .ok (.aload 4, 2) := by decide +kernel
theorem dX6_gap_88 : decode cX6_gap 88 = .ok (.iload_n 2, 1) := by decide +kernel
theorem dX6_gap_89 : decode cX6_gap 89 = .ok (.invokevirtual 153, 3) := by decide +kernel
theorem dX6_gap_92 : decode cX6_gap 92 = .ok (.ireturn, 1) := by decide +kernel
theorem dX6_gap_93 : decode cX6_gap 93 = .ok (.new 121, 3) := by decide +kernel
theorem dX6_gap_96 : decode cX6_gap 96 = .ok (.dup, 1) := by decide +kernel
theorem dX6_gap_97 : decode cX6_gap 97 = .ok (.invokespecial 123, 3) := by decide +kernel
theorem dX6_gap_100 : decode cX6_gap 100 = .ok (.athrow, 1) := by decide +kernel
theorem dX6_seen_0 : decode cX6_seen 0 = .ok (.iload_n 1, 1) := by decide +kernel
theorem dX6_seen_1 : decode cX6_seen 1 = .ok (.ifCond .lt 19, 3) := by decide +kernel
theorem dX6_seen_4 : decode cX6_seen 4 = .ok (.iload_n 1, 1) := by decide +kernel
theorem dX6_seen_5 : decode cX6_seen 5 = .ok (.bipush 16, 2) := by decide +kernel
theorem dX6_seen_7 : decode cX6_seen 7 = .ok (.if_icmp .ge 13, 3) := by decide +kernel
theorem dX6_seen_10 : decode cX6_seen 10 = .ok (.iload_n 2, 1) := by decide +kernel
theorem dX6_seen_11 : decode cX6_seen 11 = .ok (.iconst (-1), 1) := by decide +kernel
theorem dX6_seen_12 : decode cX6_seen 12 = .ok (.if_icmp .lt 8, 3) := by decide +kernel
theorem dX6_seen_15 : decode cX6_seen 15 = .ok (.iload_n 2, 1) := by decide +kernel
theorem dX6_seen_16 : decode cX6_seen 16 = .ok (.iconst 3, 1) := by decide +kernel
theorem dX6_seen_17 : decode cX6_seen 17 = .ok (.if_icmp .le 11, 3) := by decide +kernel
theorem dX6_seen_20 : decode cX6_seen 20 = .ok (.new 90, 3) := by decide +kernel
theorem dX6_seen_23 : decode cX6_seen 23 = .ok (.dup, 1) := by decide +kernel
theorem dX6_seen_24 : decode cX6_seen 24 = .ok (.invokespecial 92, 3) := by decide +kernel
theorem dX6_seen_27 : decode cX6_seen 27 = .ok (.athrow, 1) := by decide +kernel
theorem dX6_seen_28 : decode cX6_seen 28 = .ok (.iconst 0, 1) := by decide +kernel
theorem dX6_seen_29 : decode cX6_seen 29 = .ok (.istore_n 3, 1) := by decide +kernel
theorem dX6_seen_30 : decode cX6_seen 30 = .ok (.iconst 0, 1) := by decide +kernel
theorem dX6_seen_31 : decode cX6_seen 31 = .ok (.istore 4, 2) := by decide +kernel
theorem dX6_seen_33 : decode cX6_seen 33 = .ok (.iload 4, 2) := by decide +kernel
theorem dX6_seen_35 : decode cX6_seen 35 = .ok (.bipush 12, 2) := by decide +kernel
theorem dX6_seen_37 : decode cX6_seen 37 = .ok (.if_icmp .ge 37, 3) := by decide +kernel
theorem dX6_seen_40 : decode cX6_seen 40 = .ok (.aload_n 0, 1) := by decide +kernel
theorem dX6_seen_41 : decode cX6_seen 41 = .ok (.getfield 15, 3) := by decide +kernel
theorem dX6_seen_44 : decode cX6_seen 44 = .ok (.iload 4, 2) := by decide +kernel
theorem dX6_seen_46 : decode cX6_seen 46 = .ok (.aaload, 1) := by decide +kernel
theorem dX6_seen_47 : decode cX6_seen 47 = .ok (.getfield 114, 3) := by decide +kernel
theorem dX6_seen_50 : decode cX6_seen 50 = .ok (.ifCond .eq 18, 3) := by decide +kernel
theorem dX6_seen_53 : decode cX6_seen 53 = .ok (.iload_n 3, 1) := by decide +kernel
theorem dX6_seen_54 : decode cX6_seen 54 = .ok (.aload_n 0, 1) := by decide +kernel
theorem dX6_seen_55 : decode cX6_seen 55 = .ok (.getfield 15, 3) := by decide +kernel
theorem dX6_seen_58 : decode cX6_seen 58 = .ok (.iload 4, 2) := by decide +kernel
theorem dX6_seen_60 : decode cX6_seen 60 = .ok (.aaload, 1) := by decide +kernel
theorem dX6_seen_61 : decode cX6_seen 61 = .ok (.iload_n 1, 1) := by decide +kernel
theorem dX6_seen_62 : decode cX6_seen 62 = .ok (.iload_n 2, 1) := by decide +kernel
theorem dX6_seen_63 : decode cX6_seen 63 = .ok (.invokevirtual 157, 3) := by decide +kernel
theorem dX6_seen_66 : decode cX6_seen 66 = .ok (.iadd, 1) := by decide +kernel
theorem dX6_seen_67 : decode cX6_seen 67 = .ok (.istore_n 3, 1) := by decide +kernel
theorem dX6_seen_68 : decode cX6_seen 68 = .ok (.iinc 4 1, 3) := by decide +kernel
theorem dX6_seen_71 : decode cX6_seen 71 = .ok (.goto (-38), 3) := by decide +kernel
theorem dX6_seen_74 : decode cX6_seen 74 = .ok (.iload_n 3, 1) := by decide +kernel
theorem dX6_seen_75 : decode cX6_seen 75 = .ok (.ireturn, 1) := by decide +kernel
theorem dX6_price_0 : decode cX6_price 0 = .ok (.iload_n 1, 1) := by decide +kernel
theorem dX6_price_1 : decode cX6_price 1 = .ok (.ifCond .lt 18, 3) := by decide +kernel
theorem dX6_price_4 : decode cX6_price 4 = .ok (.iload_n 1, 1) := by decide +kernel
theorem dX6_price_5 : decode cX6_price 5 = .ok (.iconst 1, 1) := by decide +kernel
theorem dX6_price_6 : decode cX6_price 6 = .ok (.if_icmp .gt 13, 3) := by decide +kernel
theorem dX6_price_9 : decode cX6_price 9 = .ok (.iload_n 2, 1) := by decide +kernel
theorem dX6_price_10 : decode cX6_price 10 = .ok (.ifCond .lt 9, 3) := by decide +kernel
theorem dX6_price_13 : decode cX6_price 13 = .ok (.iload_n 2, 1) := by decide +kernel
theorem dX6_price_14 : decode cX6_price 14 = .ok (.bipush 100, 2) := by decide +kernel
theorem dX6_price_16 : decode cX6_price 16 = .ok (.if_icmp .le 11, 3) := by decide +kernel
theorem dX6_price_19 : decode cX6_price 19 = .ok (.new 90, 3) := by decide +kernel
theorem dX6_price_22 : decode cX6_price 22 = .ok (.dup, 1) := by decide +kernel
theorem dX6_price_23 : decode cX6_price 23 = .ok (.invokespecial 92, 3) := by decide +kernel
theorem dX6_price_26 : decode cX6_price 26 = .ok (.athrow, 1) := by decide +kernel
theorem dX6_price_27 : decode cX6_price 27 = .ok (.iload_n 1, 1) := by decide +kernel
theorem dX6_price_28 : decode cX6_price 28 = .ok (.ifCond .ne 10, 3) := by decide +kernel
theorem dX6_price_31 : decode cX6_price 31 = .ok (.aload_n 0, 1) := by decide +kernel
theorem dX6_price_32 : decode cX6_price 32 = .ok (.getfield 35, 3) := by decide +kernel
theorem dX6_price_35 : decode cX6_price 35 = .ok (.goto 7, 3) := by decide +kernel
theorem dX6_price_38 : decode cX6_price 38 = .ok (.aload_n 0, 1) := by decide +kernel
theorem dX6_price_39 : decode cX6_price 39 = .ok (.getfield 38, 3) := by decide +kernel
theorem dX6_price_42 : decode cX6_price 42 = .ok (.istore_n 3, 1) := by decide +kernel
theorem dX6_price_43 : decode cX6_price 43 = .ok (.iload_n 1, 1) := by decide +kernel
theorem dX6_price_44 : decode cX6_price 44 = .ok (.ifCond .ne 11, 3) := by decide +kernel
theorem dX6_price_47 : decode cX6_price 47 = .ok (.aload_n 0, 1) := by decide +kernel
theorem dX6_price_48 : decode cX6_price 48 = .ok (.iload_n 2, 1) := by decide +kernel
theorem dX6_price_49 : decode cX6_price 49 = .ok (.putfield 35, 3) := by decide +kernel
theorem dX6_price_52 : decode cX6_price 52 = .ok (.goto 8, 3) := by decide +kernel
theorem dX6_price_55 : decode cX6_price 55 = .ok (.aload_n 0, 1) := by decide +kernel
theorem dX6_price_56 : decode cX6_price 56 = .ok (.iload_n 2, 1) := by decide +kernel
theorem dX6_price_57 : decode cX6_price 57 = .ok (.putfield 38, 3) := by decide +kernel
theorem dX6_price_60 : decode cX6_price 60 = .ok (.iload_n 3, 1) := by decide +kernel
theorem dX6_price_61 : decode cX6_price 61 = .ok (.ireturn, 1) := by decide +kernel
theorem dX6_find_0 : decode cX6_find 0 = .ok (.aload_n 0, 1) := by decide +kernel
theorem dX6_find_1 : decode cX6_find 1 = .ok (.invokevirtual 161, 3) := by decide +kernel
theorem dX6_find_4 : decode cX6_find 4 = .ok (.iconst 0, 1) := by decide +kernel
theorem dX6_find_5 : decode cX6_find 5 = .ok (.istore_n 1, 1) := by decide +kernel
theorem dX6_find_6 : decode cX6_find 6 = .ok (.iconst 0, 1) := by decide +kernel
theorem dX6_find_7 : decode cX6_find 7 = .ok (.istore_n 2, 1) := by decide +kernel
theorem dX6_find_8 : decode cX6_find 8 = .ok (.iload_n 2, 1) := by decide +kernel
theorem dX6_find_9 : decode cX6_find 9 = .ok (.bipush 16, 2) := by decide +kernel
theorem dX6_find_11 : decode cX6_find 11 = .ok (.if_icmp .ge 44, 3) := by decide +kernel
theorem dX6_find_14 : decode cX6_find 14 = .ok (.aload_n 0, 1) := by decide +kernel
theorem dX6_find_15 : decode cX6_find 15 = .ok (.getfield 43, 3) := by decide +kernel
theorem dX6_find_18 : decode cX6_find 18 = .ok (.iload_n 2, 1) := by decide +kernel
theorem dX6_find_19 : decode cX6_find 19 = .ok (.aaload, 1) := by decide +kernel
theorem dX6_find_20 : decode cX6_find 20 = .ok (.aload_n 0, 1) := by decide +kernel
theorem dX6_find_21 : decode cX6_find 21 = .ok (.getfield 49, 3) := by decide +kernel
theorem dX6_find_24 : decode cX6_find 24 = .ok (.iload_n 2, 1) := by decide +kernel
theorem dX6_find_25 : decode cX6_find 25 = .ok (.aaload, 1) := by decide +kernel
theorem dX6_find_26 : decode cX6_find 26 = .ok (.aload_n 0, 1) := by decide +kernel
theorem dX6_find_27 : decode cX6_find 27 = .ok (.getfield 35, 3) := by decide +kernel
theorem dX6_find_30 : decode cX6_find 30 = .ok (.aload_n 0, 1) := by decide +kernel
theorem dX6_find_31 : decode cX6_find 31 = .ok (.getfield 38, 3) := by decide +kernel
theorem dX6_find_34 : decode cX6_find 34 = .ok (.invokevirtual 164, 3) := by decide +kernel
theorem dX6_find_37 : decode cX6_find 37 = .ok (.iload_n 1, 1) := by decide +kernel
theorem dX6_find_38 : decode cX6_find 38 = .ok (.aload_n 0, 1) := by decide +kernel
theorem dX6_find_39 : decode cX6_find 39 = .ok (.getfield 49, 3) := by decide +kernel
theorem dX6_find_42 : decode cX6_find 42 = .ok (.iload_n 2, 1) := by decide +kernel
theorem dX6_find_43 : decode cX6_find 43 = .ok (.aaload, 1) := by decide +kernel
theorem dX6_find_44 : decode cX6_find 44 = .ok (.getfield 168, 3) := by decide +kernel
theorem dX6_find_47 : decode cX6_find 47 = .ok (.iadd, 1) := by decide +kernel
theorem dX6_find_48 : decode cX6_find 48 = .ok (.istore_n 1, 1) := by decide +kernel
theorem dX6_find_49 : decode cX6_find 49 = .ok (.iinc 2 1, 3) := by decide +kernel
theorem dX6_find_52 : decode cX6_find 52 = .ok (.goto (-44), 3) := by decide +kernel
theorem dX6_find_55 : decode cX6_find 55 = .ok (.aload_n 0, 1) := by decide +kernel
theorem dX6_find_56 : decode cX6_find 56 = .ok (.iconst 1, 1) := by decide +kernel
theorem dX6_find_57 : decode cX6_find 57 = .ok (.putfield 171, 3) := by decide +kernel
theorem dX6_find_60 : decode cX6_find 60 = .ok (.iload_n 1, 1) := by decide +kernel
theorem dX6_find_61 : decode cX6_find 61 = .ok (.ireturn, 1) := by decide +kernel
theorem dX6_tallyAllTexts_0 : decode cX6_tallyAllTexts 0 = .ok (.iconst 0, 1) := by decide +kernel
theorem dX6_tallyAllTexts_1 : decode cX6_tallyAllTexts 1 = .ok (.istore_n 1, 1) := by decide +kernel
theorem dX6_tallyAllTexts_2 : decode cX6_tallyAllTexts 2 = .ok (.iload_n 1, 1) := by decide +kernel
theorem dX6_tallyAllTexts_3 : decode cX6_tallyAllTexts 3 = .ok (.bipush 16, 2) := by decide +kernel
theorem dX6_tallyAllTexts_5 : decode cX6_tallyAllTexts 5 = .ok (.if_icmp .ge 18, 3) := by decide +kernel
theorem dX6_tallyAllTexts_8 : decode cX6_tallyAllTexts 8 = .ok (.aload_n 0, 1) := by decide +kernel
theorem dX6_tallyAllTexts_9 : decode cX6_tallyAllTexts 9 = .ok (.getfield 43, 3) := by decide +kernel
theorem dX6_tallyAllTexts_12 : decode cX6_tallyAllTexts 12 = .ok (.iload_n 1, 1) := by decide +kernel
theorem dX6_tallyAllTexts_13 : decode cX6_tallyAllTexts 13 = .ok (.aaload, 1) := by decide +kernel
theorem dX6_tallyAllTexts_14 : decode cX6_tallyAllTexts 14 = .ok (.invokevirtual 174, 3) := by decide +kernel
theorem dX6_tallyAllTexts_17 : decode cX6_tallyAllTexts 17 = .ok (.iinc 1 1, 3) := by decide +kernel
theorem dX6_tallyAllTexts_20 : decode cX6_tallyAllTexts 20 = .ok (.goto (-18), 3) := by decide +kernel
theorem dX6_tallyAllTexts_23 : decode cX6_tallyAllTexts 23 = .ok (.iconst 0, 1) := by decide +kernel
theorem dX6_tallyAllTexts_24 : decode cX6_tallyAllTexts 24 = .ok (.istore_n 1, 1) := by decide +kernel
theorem dX6_tallyAllTexts_25 : decode cX6_tallyAllTexts 25 = .ok (.iload_n 1, 1) := by decide +kernel
theorem dX6_tallyAllTexts_26 : decode cX6_tallyAllTexts 26 = .ok (.bipush 12, 2) := by decide +kernel
theorem dX6_tallyAllTexts_28 : decode cX6_tallyAllTexts 28 = .ok (.if_icmp .ge 31, 3) := by decide +kernel
theorem dX6_tallyAllTexts_31 : decode cX6_tallyAllTexts 31 = .ok (.aload_n 0, 1) := by decide +kernel
theorem dX6_tallyAllTexts_32 : decode cX6_tallyAllTexts 32 = .ok (.getfield 15, 3) := by decide +kernel
theorem dX6_tallyAllTexts_35 : decode cX6_tallyAllTexts 35 = .ok (.iload_n 1, 1) := by decide +kernel
theorem dX6_tallyAllTexts_36 : decode cX6_tallyAllTexts 36 = .ok (.aaload, 1) := by decide +kernel
theorem dX6_tallyAllTexts_37 : decode cX6_tallyAllTexts 37 = .ok (.getfield 114, 3) := by decide +kernel
theorem dX6_tallyAllTexts_40 : decode cX6_tallyAllTexts 40 = .ok (.ifCond .eq 13, 3) := by decide +kernel
theorem dX6_tallyAllTexts_43 : decode cX6_tallyAllTexts 43 = .ok (.aload_n 0, 1) := by decide +kernel
theorem dX6_tallyAllTexts_44 : decode cX6_tallyAllTexts 44 = .ok (.aload_n 0, 1) := by decide +kernel
theorem dX6_tallyAllTexts_45 : decode cX6_tallyAllTexts 45 = .ok (.getfield 15, 3) := by decide +kernel
theorem dX6_tallyAllTexts_48 : decode cX6_tallyAllTexts 48 = .ok (.iload_n 1, 1) := by decide +kernel
theorem dX6_tallyAllTexts_49 : decode cX6_tallyAllTexts 49 = .ok (.aaload, 1) := by decide +kernel
theorem dX6_tallyAllTexts_50 : decode cX6_tallyAllTexts 50 = .ok (.invokevirtual 177, 3) := by decide +kernel
theorem dX6_tallyAllTexts_53 : decode cX6_tallyAllTexts 53 = .ok (.iinc 1 1, 3) := by decide +kernel
theorem dX6_tallyAllTexts_56 : decode cX6_tallyAllTexts 56 = .ok (.goto (-31), 3) := by decide +kernel
theorem dX6_tallyAllTexts_59 : decode cX6_tallyAllTexts 59 = .ok (.return_, 1) := by decide +kernel
theorem dX6_tallyText_0 : decode cX6_tallyText 0 = .ok (.aload_n 1, 1) := by decide +kernel
theorem dX6_tallyText_1 : decode cX6_tallyText 1 = .ok (.invokevirtual 140, 3) := by decide +kernel
theorem dX6_tallyText_4 : decode cX6_tallyText 4 = .ok (.istore_n 2, 1) := by decide +kernel
theorem dX6_tallyText_5 : decode cX6_tallyText 5 = .ok (.iconst 0, 1) := by decide +kernel
theorem dX6_tallyText_6 : decode cX6_tallyText 6 = .ok (.istore_n 3, 1) := by decide +kernel
theorem dX6_tallyText_7 : decode cX6_tallyText 7 = .ok (.iload_n 3, 1) := by decide +kernel
theorem dX6_tallyText_8 : decode cX6_tallyText 8 = .ok (.iload_n 2, 1) := by decide +kernel
theorem dX6_tallyText_9 : decode cX6_tallyText 9 = .ok (.if_icmp .ge 40, 3) := by decide +kernel
theorem dX6_tallyText_12 : decode cX6_tallyText 12 = .ok (.aload_n 1, 1) := by decide +kernel
theorem dX6_tallyText_13 : decode cX6_tallyText 13 = .ok (.getfield 144, 3) := by decide +kernel
theorem dX6_tallyText_16 : decode cX6_tallyText 16 = .ok (.iload_n 3, 1) := by decide +kernel
theorem dX6_tallyText_17 : decode cX6_tallyText 17 = .ok (.iaload, 1) := by decide +kernel
theorem dX6_tallyText_18 : decode cX6_tallyText 18 = .ok (.istore 4, 2) := by decide +kernel
theorem dX6_tallyText_20 : decode cX6_tallyText 20 = .ok (.aload_n 0, 1) := by decide +kernel
theorem dX6_tallyText_21 : decode cX6_tallyText 21 = .ok (.getfield 43, 3) := by decide +kernel
theorem dX6_tallyText_24 : decode cX6_tallyText 24 = .ok (.iload 4, 2) := by decide +kernel
theorem dX6_tallyText_26 : decode cX6_tallyText 26 = .ok (.aaload, 1) := by decide +kernel
theorem dX6_tallyText_27 : decode cX6_tallyText 27 = .ok (.iload 4, 2) := by decide +kernel
theorem dX6_tallyText_29 : decode cX6_tallyText 29 = .ok (.aload_n 1, 1) := by decide +kernel
theorem dX6_tallyText_30 : decode cX6_tallyText 30 = .ok (.iload_n 3, 1) := by decide +kernel
theorem dX6_tallyText_31 : decode cX6_tallyText 31 = .ok (.invokevirtual 153, 3) := by decide +kernel
theorem dX6_tallyText_34 : decode cX6_tallyText 34 = .ok (.aload_n 1, 1) := by decide +kernel
theorem dX6_tallyText_35 : decode cX6_tallyText 35 = .ok (.getfield 147, 3) := by decide +kernel
theorem dX6_tallyText_38 : decode cX6_tallyText 38 = .ok (.iload_n 3, 1) := by decide +kernel
theorem dX6_tallyText_39 : decode cX6_tallyText 39 = .ok (.iaload, 1) := by decide +kernel
theorem dX6_tallyText_40 : decode cX6_tallyText 40 = .ok (.invokevirtual 181, 3) := by decide +kernel
theorem dX6_tallyText_43 : decode cX6_tallyText 43 = .ok (.iinc 3 1, 3) := by decide +kernel
theorem dX6_tallyText_46 : decode cX6_tallyText 46 = .ok (.goto (-39), 3) := by decide +kernel
theorem dX6_tallyText_49 : decode cX6_tallyText 49 = .ok (.return_, 1) := by decide +kernel
theorem dX6_habit_0 : decode cX6_habit 0 = .ok (.iload_n 1, 1) := by decide +kernel
theorem dX6_habit_1 : decode cX6_habit 1 = .ok (.ifCond .lt 19, 3) := by decide +kernel
theorem dX6_habit_4 : decode cX6_habit 4 = .ok (.iload_n 1, 1) := by decide +kernel
theorem dX6_habit_5 : decode cX6_habit 5 = .ok (.bipush 16, 2) := by decide +kernel
theorem dX6_habit_7 : decode cX6_habit 7 = .ok (.if_icmp .ge 13, 3) := by decide +kernel
theorem dX6_habit_10 : decode cX6_habit 10 = .ok (.iload_n 2, 1) := by decide +kernel
theorem dX6_habit_11 : decode cX6_habit 11 = .ok (.ifCond .lt 9, 3) := by decide +kernel
theorem dX6_habit_14 : decode cX6_habit 14 = .ok (.iload_n 2, 1) := by decide +kernel
theorem dX6_habit_15 : decode cX6_habit 15 = .ok (.bipush 7, 2) := by decide +kernel
theorem dX6_habit_17 : decode cX6_habit 17 = .ok (.if_icmp .le 11, 3) := by decide +kernel
theorem dX6_habit_20 : decode cX6_habit 20 = .ok (.new 90, 3) := by decide +kernel
theorem dX6_habit_23 : decode cX6_habit 23 = .ok (.dup, 1) := by decide +kernel
theorem dX6_habit_24 : decode cX6_habit 24 = .ok (.invokespecial 92, 3) := by decide +kernel
theorem dX6_habit_27 : decode cX6_habit 27 = .ok (.athrow, 1) := by decide +kernel
theorem dX6_habit_28 : decode cX6_habit 28 = .ok (.aload_n 0, 1) := by decide +kernel
theorem dX6_habit_29 : decode cX6_habit 29 = .ok (.getfield 171, 3) := by decide +kernel
theorem dX6_habit_32 : decode cX6_habit 32 = .ok (.ifCond .eq 16, 3) := by decide +kernel
theorem dX6_habit_35 : decode cX6_habit 35 = .ok (.aload_n 0, 1) := by decide +kernel
theorem dX6_habit_36 : decode cX6_habit 36 = .ok (.getfield 49, 3) := by decide +kernel
theorem dX6_habit_39 : decode cX6_habit 39 = .ok (.iload_n 1, 1) := by decide +kernel
theorem dX6_habit_40 : decode cX6_habit 40 = .ok (.aaload, 1) := by decide +kernel
theorem dX6_habit_41 : decode cX6_habit 41 = .ok (.iload_n 2, 1) := by decide +kernel
theorem dX6_habit_42 : decode cX6_habit 42 = .ok (.invokevirtual 184, 3) := by decide +kernel
theorem dX6_habit_45 : decode cX6_habit 45 = .ok (.goto 4, 3) := by decide +kernel
theorem dX6_habit_48 : decode cX6_habit 48 = .ok (.iconst (-1), 1) := by decide +kernel
theorem dX6_habit_49 : decode cX6_habit 49 = .ok (.ireturn, 1) := by decide +kernel
theorem dX6_exception_0 : decode cX6_exception 0 = .ok (.aload_n 0, 1) := by decide +kernel
theorem dX6_exception_1 : decode cX6_exception 1 = .ok (.iload_n 1, 1) := by decide +kernel
theorem dX6_exception_2 : decode cX6_exception 2 = .ok (.invokevirtual 124, 3) := by decide +kernel
theorem dX6_exception_5 : decode cX6_exception 5 = .ok (.astore_n 3, 1) := by decide +kernel
theorem dX6_exception_6 : decode cX6_exception 6 = .ok (.iload_n 2, 1) := by decide +kernel
theorem dX6_exception_7 : decode cX6_exception 7 = .ok (.iconst (-1), 1) := by decide +kernel
theorem dX6_exception_8 : decode cX6_exception 8 = .ok (.if_icmp .ge 11, 3) := by decide +kernel
theorem dX6_exception_11 : decode cX6_exception 11 = .ok (.new 90, 3) := by decide +kernel
theorem dX6_exception_14 : decode cX6_exception 14 = .ok (.dup, 1) := by decide +kernel
theorem dX6_exception_15 : decode cX6_exception 15 = .ok (.invokespecial 92, 3) := by decide +kernel
theorem dX6_exception_18 : decode cX6_exception 18 = .ok (.athrow, 1) := by decide +kernel
theorem dX6_exception_19 : decode cX6_exception 19 = .ok (.aload_n 0, 1) := by decide +kernel
theorem dX6_exception_20 : decode cX6_exception 20 = .ok (.getfield 171, 3) := by decide +kernel
theorem dX6_exception_23 : decode cX6_exception 23 = .ok (.ifCond .ne 5, 3) := by decide +kernel
theorem dX6_exception_26 : decode cX6_exception 26 = .ok (.iconst (-1), 1) := by decide +kernel
theorem dX6_exception_27 : decode cX6_exception 27 = .ok (.ireturn, 1) := by decide +kernel
theorem dX6_exception_28 : decode cX6_exception 28 = .ok (.aload_n 3, 1) := by decide +kernel
theorem dX6_exception_29 : decode cX6_exception 29 = .ok (.invokevirtual 140, 3) := by decide +kernel
theorem dX6_exception_32 : decode cX6_exception 32 = .ok (.istore 4, 2) := by decide +kernel
theorem dX6_exception_34 : decode cX6_exception 34 = .ok (.iconst 0, 1) := by decide +kernel
theorem dX6_exception_35 : decode cX6_exception 35 = .ok (.istore 5, 2) := by decide +kernel
theorem dX6_exception_37 : decode cX6_exception 37 = .ok (.iconst 0, 1) := by decide +kernel
theorem dX6_exception_38 : decode cX6_exception 38 = .ok (.istore 6, 2) := by decide +kernel
theorem dX6_exception_40 : decode cX6_exception 40 = .ok (.iload 6, 2) := by decide +kernel
theorem dX6_exception_42 : decode cX6_exception 42 = .ok (.iload 4, 2) := by decide +kernel
theorem dX6_exception_44 : decode cX6_exception 44 = .ok (.if_icmp .ge 38, 3) := by decide +kernel
theorem dX6_exception_47 : decode cX6_exception 47 = .ok (.aload_n 0, 1) := by decide +kernel
theorem dX6_exception_48 : decode cX6_exception 48 = .ok (.aload_n 3, 1) := by decide +kernel
theorem dX6_exception_49 : decode cX6_exception 49 = .ok (.iload 6, 2) := by decide +kernel
theorem dX6_exception_51 : decode cX6_exception 51 = .ok (.invokevirtual 187, 3) := by decide +kernel
theorem dX6_exception_54 : decode cX6_exception 54 = .ok (.aload_n 3, 1) := by decide +kernel
theorem dX6_exception_55 : decode cX6_exception 55 = .ok (.getfield 147, 3) := by decide +kernel
theorem dX6_exception_58 : decode cX6_exception 58 = .ok (.iload 6, 2) := by decide +kernel
theorem dX6_exception_60 : decode cX6_exception 60 = .ok (.iaload, 1) := by decide +kernel
theorem dX6_exception_61 : decode cX6_exception 61 = .ok (.if_icmp .eq 15, 3) := by decide +kernel
theorem dX6_exception_64 : decode cX6_exception 64 = .ok (.iload 5, 2) := by decide +kernel
theorem dX6_exception_66 : decode cX6_exception 66 = .ok (.iload_n 2, 1) := by decide +kernel
theorem dX6_exception_67 : decode cX6_exception 67 = .ok (.if_icmp .ne 6, 3) := by decide +kernel
theorem dX6_exception_70 : decode cX6_exception 70 = .ok (.iload 6, 2) := by decide +kernel
theorem dX6_exception_72 : decode cX6_exception 72 = .ok (.ireturn, 1) := by decide +kernel
theorem dX6_exception_73 : decode cX6_exception 73 = .ok (.iinc 5 1, 3) := by decide +kernel
theorem dX6_exception_76 : decode cX6_exception 76 = .ok (.iinc 6 1, 3) := by decide +kernel
theorem dX6_exception_79 : decode cX6_exception 79 = .ok (.goto (-39), 3) := by decide +kernel
theorem dX6_exception_82 : decode cX6_exception 82 = .ok (.iload_n 2, 1) := by decide +kernel
theorem dX6_exception_83 : decode cX6_exception 83 = .ok (.iconst (-1), 1) := by decide +kernel
theorem dX6_exception_84 : decode cX6_exception 84 = .ok (.if_icmp .ne 8, 3) := by decide +kernel
theorem dX6_exception_87 : decode cX6_exception 87 = .ok (.iload 5, 2) := by decide +kernel
theorem dX6_exception_89 : decode cX6_exception 89 = .ok (.goto 4, 3) := by decide +kernel
theorem dX6_exception_92 : decode cX6_exception 92 = .ok (.iconst (-1), 1) := by decide +kernel
theorem dX6_exception_93 : decode cX6_exception 93 = .ok (.ireturn, 1) := by decide +kernel
theorem dX6_toldAt_0 : decode cX6_toldAt 0 = .ok (.aload_n 1, 1) := by decide +kernel
theorem dX6_toldAt_1 : decode cX6_toldAt 1 = .ok (.getfield 144, 3) := by decide +kernel
theorem dX6_toldAt_4 : decode cX6_toldAt 4 = .ok (.iload_n 2, 1) := by decide +kernel
theorem dX6_toldAt_5 : decode cX6_toldAt 5 = .ok (.iaload, 1) := by decide +kernel
theorem dX6_toldAt_6 : decode cX6_toldAt 6 = .ok (.istore_n 3, 1) := by decide +kernel
theorem dX6_toldAt_7 : decode cX6_toldAt 7 = .ok (.aload_n 0, 1) := by decide +kernel
theorem dX6_toldAt_8 : decode cX6_toldAt 8 = .ok (.getfield 49, 3) := by decide +kernel
theorem dX6_toldAt_11 : decode cX6_toldAt 11 = .ok (.iload_n 3, 1) := by decide +kernel
theorem dX6_toldAt_12 : decode cX6_toldAt 12 = .ok (.aaload, 1) := by decide +kernel
theorem dX6_toldAt_13 : decode cX6_toldAt 13 = .ok (.iload_n 3, 1) := by decide +kernel
theorem dX6_toldAt_14 : decode cX6_toldAt 14 = .ok (.aload_n 1, 1) := by decide +kernel
theorem dX6_toldAt_15 : decode cX6_toldAt 15 = .ok (.iload_n 2, 1) := by decide +kernel
theorem dX6_toldAt_16 : decode cX6_toldAt 16 = .ok (.invokevirtual 153, 3) := by decide +kernel
theorem dX6_toldAt_19 : decode cX6_toldAt 19 = .ok (.invokevirtual 191, 3) := by decide +kernel
theorem dX6_toldAt_22 : decode cX6_toldAt 22 = .ok (.ireturn, 1) := by decide +kernel
theorem dX6_keptApart_0 : decode cX6_keptApart 0 = .ok (.iload_n 0, 1) := by decide +kernel
theorem dX6_keptApart_1 : decode cX6_keptApart 1 = .ok (.bipush 15, 2) := by decide +kernel
theorem dX6_keptApart_3 : decode cX6_keptApart 3 = .ok (.if_icmp .ne 11, 3) := by decide +kernel
theorem dX6_keptApart_6 : decode cX6_keptApart 6 = .ok (.iload_n 1, 1) := by decide +kernel
theorem dX6_keptApart_7 : decode cX6_keptApart 7 = .ok (.ifCond .ne 7, 3) := by decide +kernel
theorem dX6_keptApart_10 : decode cX6_keptApart 10 = .ok (.iconst 1, 1) := by decide +kernel
theorem dX6_keptApart_11 : decode cX6_keptApart 11 = .ok (.goto 4, 3) := by decide +kernel
theorem dX6_keptApart_14 : decode cX6_keptApart 14 = .ok (.iload_n 1, 1) := by decide +kernel
theorem dX6_keptApart_15 : decode cX6_keptApart 15 = .ok (.ireturn, 1) := by decide +kernel
theorem dX6_lay_0 : decode cX6_lay 0 = .ok (.aload_n 0, 1) := by decide +kernel
theorem dX6_lay_1 : decode cX6_lay 1 = .ok (.iload_n 1, 1) := by decide +kernel
theorem dX6_lay_2 : decode cX6_lay 2 = .ok (.invokevirtual 124, 3) := by decide +kernel
theorem dX6_lay_5 : decode cX6_lay 5 = .ok (.astore_n 2, 1) := by decide +kernel
theorem dX6_lay_6 : decode cX6_lay 6 = .ok (.aload_n 0, 1) := by decide +kernel
theorem dX6_lay_7 : decode cX6_lay 7 = .ok (.invokevirtual 194, 3) := by decide +kernel
theorem dX6_lay_10 : decode cX6_lay 10 = .ok (.aload_n 0, 1) := by decide +kernel
theorem dX6_lay_11 : decode cX6_lay 11 = .ok (.getfield 171, 3) := by decide +kernel
theorem dX6_lay_14 : decode cX6_lay 14 = .ok (.ifCond .ne 5, 3) := by decide +kernel
theorem dX6_lay_17 : decode cX6_lay 17 = .ok (.iconst (-1), 1) := by decide +kernel
theorem dX6_lay_18 : decode cX6_lay 18 = .ok (.ireturn, 1) := by decide +kernel
theorem dX6_lay_19 : decode cX6_lay 19 = .ok (.iconst 0, 1) := by decide +kernel
theorem dX6_lay_20 : decode cX6_lay 20 = .ok (.istore_n 3, 1) := by decide +kernel
theorem dX6_lay_21 : decode cX6_lay 21 = .ok (.iload_n 3, 1) := by decide +kernel
theorem dX6_lay_22 : decode cX6_lay 22 = .ok (.aload_n 2, 1) := by decide +kernel
theorem dX6_lay_23 : decode cX6_lay 23 = .ok (.getfield 128, 3) := by decide +kernel
theorem dX6_lay_26 : decode cX6_lay 26 = .ok (.if_icmp .ge 57, 3) := by decide +kernel
theorem dX6_lay_29 : decode cX6_lay 29 = .ok (.iload_n 3, 1) := by decide +kernel
theorem dX6_lay_30 : decode cX6_lay 30 = .ok (.ifCond .le 24, 3) := by decide +kernel
theorem dX6_lay_33 : decode cX6_lay 33 = .ok (.aload_n 0, 1) := by decide +kernel
theorem dX6_lay_34 : decode cX6_lay 34 = .ok (.getfield 56, 3) := by decide +kernel
theorem dX6_lay_37 : decode cX6_lay 37 = .ok (.aload_n 0, 1) := by decide +kernel
theorem dX6_lay_38 : decode cX6_lay 38 = .ok (.aload_n 2, 1) := by decide +kernel
theorem dX6_lay_39 : decode cX6_lay 39 = .ok (.iload_n 3, 1) := by decide +kernel
theorem dX6_lay_40 : decode cX6_lay 40 = .ok (.iconst 1, 1) := by decide +kernel
theorem dX6_lay_41 : decode cX6_lay 41 = .ok (.isub, 1) := by decide +kernel
theorem dX6_lay_42 : decode cX6_lay 42 = .ok (.invokevirtual 187, 3) := by decide +kernel
theorem dX6_lay_45 : decode cX6_lay 45 = .ok (.aload_n 2, 1) := by decide +kernel
theorem dX6_lay_46 : decode cX6_lay 46 = .ok (.getfield 150, 3) := by decide +kernel
theorem dX6_lay_49 : decode cX6_lay 49 = .ok (.iload_n 3, 1) := by decide +kernel
theorem dX6_lay_50 : decode cX6_lay 50 = .ok (.iaload, 1) := by decide +kernel
theorem dX6_lay_51 : decode cX6_lay 51 = .ok (.invokevirtual 197, 3) := by decide +kernel
theorem dX6_lay_54 : decode cX6_lay 54 = .ok (.aload_n 0, 1) := by decide +kernel
theorem dX6_lay_55 : decode cX6_lay 55 = .ok (.getfield 56, 3) := by decide +kernel
theorem dX6_lay_58 : decode cX6_lay 58 = .ok (.aload_n 2, 1) := by decide +kernel
theorem dX6_lay_59 : decode cX6_lay 59 = .ok (.getfield 201, 3) := by decide +kernel
theorem dX6_lay_62 : decode cX6_lay 62 = .ok (.aload_n 2, 1) := by decide +kernel
theorem dX6_lay_63 : decode cX6_lay 63 = .ok (.getfield 204, 3) := by decide +kernel
theorem dX6_lay_66 : decode cX6_lay 66 = .ok (.iload_n 3, 1) := by decide +kernel
theorem dX6_lay_67 : decode cX6_lay 67 = .ok (.iaload, 1) := by decide +kernel
theorem dX6_lay_68 : decode cX6_lay 68 = .ok (.aload_n 2, 1) := by decide +kernel
theorem dX6_lay_69 : decode cX6_lay 69 = .ok (.getfield 207, 3) := by decide +kernel
theorem dX6_lay_72 : decode cX6_lay 72 = .ok (.iload_n 3, 1) := by decide +kernel
theorem dX6_lay_73 : decode cX6_lay 73 = .ok (.iaload, 1) := by decide +kernel
theorem dX6_lay_74 : decode cX6_lay 74 = .ok (.invokevirtual 210, 3) := by decide +kernel
theorem dX6_lay_77 : decode cX6_lay 77 = .ok (.iinc 3 1, 3) := by decide +kernel
theorem dX6_lay_80 : decode cX6_lay 80 = .ok (.goto (-59), 3) := by decide +kernel
theorem dX6_lay_83 : decode cX6_lay 83 = .ok (.aload_n 0, 1) := by decide +kernel
theorem dX6_lay_84 : decode cX6_lay 84 = .ok (.iload_n 1, 1) := by decide +kernel
theorem dX6_lay_85 : decode cX6_lay 85 = .ok (.sipush 2000, 3) := by decide +kernel
theorem dX6_lay_88 : decode cX6_lay 88 = .ok (.invokevirtual 213, 3) := by decide +kernel
theorem dX6_lay_91 : decode cX6_lay 91 = .ok (.ireturn, 1) := by decide +kernel
theorem dX6_clearOut_0 : decode cX6_clearOut 0 = .ok (.aload_n 0, 1) := by decide +kernel
theorem dX6_clearOut_1 : decode cX6_clearOut 1 = .ok (.getfield 56, 3) := by decide +kernel
theorem dX6_clearOut_4 : decode cX6_clearOut 4 = .ok (.invokevirtual 216, 3) := by decide +kernel
theorem dX6_clearOut_7 : decode cX6_clearOut 7 = .ok (.aload_n 0, 1) := by decide +kernel
theorem dX6_clearOut_8 : decode cX6_clearOut 8 = .ok (.iconst (-1), 1) := by decide +kernel
theorem dX6_clearOut_9 : decode cX6_clearOut 9 = .ok (.putfield 60, 3) := by decide +kernel
theorem dX6_clearOut_12 : decode cX6_clearOut 12 = .ok (.return_, 1) := by decide +kernel
theorem dX6_endOut_0 : decode cX6_endOut 0 = .ok (.aload_n 0, 1) := by decide +kernel
theorem dX6_endOut_1 : decode cX6_endOut 1 = .ok (.getfield 56, 3) := by decide +kernel
theorem dX6_endOut_4 : decode cX6_endOut 4 = .ok (.getfield 217, 3) := by decide +kernel
theorem dX6_endOut_7 : decode cX6_endOut 7 = .ok (.ifCond .ne 14, 3) := by decide +kernel
theorem dX6_endOut_10 : decode cX6_endOut 10 = .ok (.aload_n 0, 1) := by decide +kernel
theorem dX6_endOut_11 : decode cX6_endOut 11 = .ok (.getfield 56, 3) := by decide +kernel
theorem dX6_endOut_14 : decode cX6_endOut 14 = .ok (.getfield 220, 3) := by decide +kernel
theorem dX6_endOut_17 : decode cX6_endOut 17 = .ok (.iload_n 2, 1) := by decide +kernel
theorem dX6_endOut_18 : decode cX6_endOut 18 = .ok (.if_icmp .le 9, 3) := by decide +kernel
theorem dX6_endOut_21 : decode cX6_endOut 21 = .ok (.aload_n 0, 1) := by decide +kernel
theorem dX6_endOut_22 : decode cX6_endOut 22 = .ok (.invokevirtual 194, 3) := by decide +kernel
theorem dX6_endOut_25 : decode cX6_endOut 25 = .ok (.iconst (-1), 1) := by decide +kernel
theorem dX6_endOut_26 : decode cX6_endOut 26 = .ok (.ireturn, 1) := by decide +kernel
theorem dX6_endOut_27 : decode cX6_endOut 27 = .ok (.aload_n 0, 1) := by decide +kernel
theorem dX6_endOut_28 : decode cX6_endOut 28 = .ok (.iload_n 1, 1) := by decide +kernel
theorem dX6_endOut_29 : decode cX6_endOut 29 = .ok (.putfield 60, 3) := by decide +kernel
theorem dX6_endOut_32 : decode cX6_endOut 32 = .ok (.aload_n 0, 1) := by decide +kernel
theorem dX6_endOut_33 : decode cX6_endOut 33 = .ok (.getfield 56, 3) := by decide +kernel
theorem dX6_endOut_36 : decode cX6_endOut 36 = .ok (.getfield 220, 3) := by decide +kernel
theorem dX6_endOut_39 : decode cX6_endOut 39 = .ok (.ireturn, 1) := by decide +kernel
theorem dX6_turn_0 : decode cX6_turn 0 = .ok (.aload_n 0, 1) := by decide +kernel
theorem dX6_turn_1 : decode cX6_turn 1 = .ok (.iload_n 1, 1) := by decide +kernel
theorem dX6_turn_2 : decode cX6_turn 2 = .ok (.invokevirtual 124, 3) := by decide +kernel
theorem dX6_turn_5 : decode cX6_turn 5 = .ok (.astore_n 3, 1) := by decide +kernel
theorem dX6_turn_6 : decode cX6_turn 6 = .ok (.iload_n 2, 1) := by decide +kernel
theorem dX6_turn_7 : decode cX6_turn 7 = .ok (.ifCond .eq 16, 3) := by decide +kernel
theorem dX6_turn_10 : decode cX6_turn 10 = .ok (.iload_n 2, 1) := by decide +kernel
theorem dX6_turn_11 : decode cX6_turn 11 = .ok (.iconst 1, 1) := by decide +kernel
theorem dX6_turn_12 : decode cX6_turn 12 = .ok (.if_icmp .eq 11, 3) := by decide +kernel
theorem dX6_turn_15 : decode cX6_turn 15 = .ok (.new 90, 3) := by decide +kernel
theorem dX6_turn_18 : decode cX6_turn 18 = .ok (.dup, 1) := by decide +kernel
theorem dX6_turn_19 : decode cX6_turn 19 = .ok (.invokespecial 92, 3) := by decide +kernel
theorem dX6_turn_22 : decode cX6_turn 22 = .ok (.athrow, 1) := by decide +kernel
theorem dX6_turn_23 : decode cX6_turn 23 = .ok (.aload_n 0, 1) := by decide +kernel
theorem dX6_turn_24 : decode cX6_turn 24 = .ok (.invokevirtual 194, 3) := by decide +kernel
theorem dX6_turn_27 : decode cX6_turn 27 = .ok (.iconst 0, 1) := by decide +kernel
theorem dX6_turn_28 : decode cX6_turn 28 = .ok (.istore 4, 2) := by decide +kernel
theorem dX6_turn_30 : decode cX6_turn 30 = .ok (.iconst 0, 1) := by decide +kernel
theorem dX6_turn_31 : decode cX6_turn 31 = .ok (.istore 5, 2) := by decide +kernel
theorem dX6_turn_33 : decode cX6_turn 33 = .ok (.iload 5, 2) := by decide +kernel
theorem dX6_turn_35 : decode cX6_turn 35 = .ok (.aload_n 3, 1) := by decide +kernel
theorem dX6_turn_36 : decode cX6_turn 36 = .ok (.getfield 128, 3) := by decide +kernel
theorem dX6_turn_39 : decode cX6_turn 39 = .ok (.if_icmp .ge 66, 3) := by decide +kernel
theorem dX6_turn_42 : decode cX6_turn 42 = .ok (.aload_n 3, 1) := by decide +kernel
theorem dX6_turn_43 : decode cX6_turn 43 = .ok (.getfield 221, 3) := by decide +kernel
theorem dX6_turn_46 : decode cX6_turn 46 = .ok (.iload 5, 2) := by decide +kernel
theorem dX6_turn_48 : decode cX6_turn 48 = .ok (.iaload, 1) := by decide +kernel
theorem dX6_turn_49 : decode cX6_turn 49 = .ok (.iconst 1, 1) := by decide +kernel
theorem dX6_turn_50 : decode cX6_turn 50 = .ok (.if_icmp .ne 49, 3) := by decide +kernel
theorem dX6_turn_53 : decode cX6_turn 53 = .ok (.aload_n 0, 1) := by decide +kernel
theorem dX6_turn_54 : decode cX6_turn 54 = .ok (.getfield 56, 3) := by decide +kernel
theorem dX6_turn_57 : decode cX6_turn 57 = .ok (.aload_n 3, 1) := by decide +kernel
theorem dX6_turn_58 : decode cX6_turn 58 = .ok (.getfield 201, 3) := by decide +kernel
theorem dX6_turn_61 : decode cX6_turn 61 = .ok (.iload 4, 2) := by decide +kernel
theorem dX6_turn_63 : decode cX6_turn 63 = .ok (.aload_n 3, 1) := by decide +kernel
theorem dX6_turn_64 : decode cX6_turn 64 = .ok (.getfield 204, 3) := by decide +kernel
theorem dX6_turn_67 : decode cX6_turn 67 = .ok (.iload 5, 2) := by decide +kernel
theorem dX6_turn_69 : decode cX6_turn 69 = .ok (.iaload, 1) := by decide +kernel
theorem dX6_turn_70 : decode cX6_turn 70 = .ok (.invokevirtual 210, 3) := by decide +kernel
theorem dX6_turn_73 : decode cX6_turn 73 = .ok (.aload_n 3, 1) := by decide +kernel
theorem dX6_turn_74 : decode cX6_turn 74 = .ok (.getfield 207, 3) := by decide +kernel
theorem dX6_turn_77 : decode cX6_turn 77 = .ok (.iload 5, 2) := by decide +kernel
theorem dX6_turn_79 : decode cX6_turn 79 = .ok (.iaload, 1) := by decide +kernel
theorem dX6_turn_80 : decode cX6_turn 80 = .ok (.istore 4, 2) := by decide +kernel
theorem dX6_turn_82 : decode cX6_turn 82 = .ok (.aload_n 0, 1) := by decide +kernel
theorem dX6_turn_83 : decode cX6_turn 83 = .ok (.aload_n 3, 1) := by decide +kernel
theorem dX6_turn_84 : decode cX6_turn 84 = .ok (.iload 5, 2) := by decide +kernel
theorem dX6_turn_86 : decode cX6_turn 86 = .ok (.iload_n 2, 1) := by decide +kernel
theorem dX6_turn_87 : decode cX6_turn 87 = .ok (.invokevirtual 224, 3) := by decide +kernel
theorem dX6_turn_90 : decode cX6_turn 90 = .ok (.ifCond .ne 9, 3) := by decide +kernel
theorem dX6_turn_93 : decode cX6_turn 93 = .ok (.aload_n 0, 1) := by decide +kernel
theorem dX6_turn_94 : decode cX6_turn 94 = .ok (.invokevirtual 194, 3) := by decide +kernel
theorem dX6_turn_97 : decode cX6_turn 97 = .ok (.iconst (-1), 1) := by decide +kernel
theorem dX6_turn_98 : decode cX6_turn 98 = .ok (.ireturn, 1) := by decide +kernel
theorem dX6_turn_99 : decode cX6_turn 99 = .ok (.iinc 5 1, 3) := by decide +kernel
theorem dX6_turn_102 : decode cX6_turn 102 = .ok (.goto (-69), 3) := by decide +kernel
theorem dX6_turn_105 : decode cX6_turn 105 = .ok (.aload_n 0, 1) := by decide +kernel
theorem dX6_turn_106 : decode cX6_turn 106 = .ok (.getfield 56, 3) := by decide +kernel
theorem dX6_turn_109 : decode cX6_turn 109 = .ok (.aload_n 3, 1) := by decide +kernel
theorem dX6_turn_110 : decode cX6_turn 110 = .ok (.getfield 201, 3) := by decide +kernel
theorem dX6_turn_113 : decode cX6_turn 113 = .ok (.iload 4, 2) := by decide +kernel
theorem dX6_turn_115 : decode cX6_turn 115 = .ok (.aload_n 3, 1) := by decide +kernel
theorem dX6_turn_116 : decode cX6_turn 116 = .ok (.getfield 131, 3) := by decide +kernel
theorem dX6_turn_119 : decode cX6_turn 119 = .ok (.invokevirtual 210, 3) := by decide +kernel
theorem dX6_turn_122 : decode cX6_turn 122 = .ok (.aload_n 0, 1) := by decide +kernel
theorem dX6_turn_123 : decode cX6_turn 123 = .ok (.iload_n 1, 1) := by decide +kernel
theorem dX6_turn_124 : decode cX6_turn 124 = .ok (.sipush 800, 3) := by decide +kernel
theorem dX6_turn_127 : decode cX6_turn 127 = .ok (.invokevirtual 213, 3) := by decide +kernel
theorem dX6_turn_130 : decode cX6_turn 130 = .ok (.ireturn, 1) := by decide +kernel
theorem dX6_turnName_0 : decode cX6_turnName 0 = .ok (.aload_n 0, 1) := by decide +kernel
theorem dX6_turnName_1 : decode cX6_turnName 1 = .ok (.getfield 66, 3) := by decide +kernel
theorem dX6_turnName_4 : decode cX6_turnName 4 = .ok (.aload_n 1, 1) := by decide +kernel
theorem dX6_turnName_5 : decode cX6_turnName 5 = .ok (.getfield 201, 3) := by decide +kernel
theorem dX6_turnName_8 : decode cX6_turnName 8 = .ok (.aload_n 1, 1) := by decide +kernel
theorem dX6_turnName_9 : decode cX6_turnName 9 = .ok (.getfield 204, 3) := by decide +kernel
theorem dX6_turnName_12 : decode cX6_turnName 12 = .ok (.iload_n 2, 1) := by decide +kernel
theorem dX6_turnName_13 : decode cX6_turnName 13 = .ok (.iaload, 1) := by decide +kernel
theorem dX6_turnName_14 : decode cX6_turnName 14 = .ok (.aload_n 1, 1) := by decide +kernel
theorem dX6_turnName_15 : decode cX6_turnName 15 = .ok (.getfield 207, 3) := by decide +kernel
theorem dX6_turnName_18 : decode cX6_turnName 18 = .ok (.iload_n 2, 1) := by decide +kernel
theorem dX6_turnName_19 : decode cX6_turnName 19 = .ok (.iaload, 1) := by decide +kernel
theorem dX6_turnName_20 : decode cX6_turnName 20 = .ok (.iload_n 3, 1) := by decide +kernel
theorem dX6_turnName_21 : decode cX6_turnName 21 = .ok (.invokevirtual 228, 3) := by decide +kernel
theorem dX6_turnName_24 : decode cX6_turnName 24 = .ok (.aload_n 0, 1) := by decide +kernel
theorem dX6_turnName_25 : decode cX6_turnName 25 = .ok (.getfield 66, 3) := by decide +kernel
theorem dX6_turnName_28 : decode cX6_turnName 28 = .ok (.getfield 232, 3) := by decide +kernel
theorem dX6_turnName_31 : decode cX6_turnName 31 = .ok (.bipush 16, 2) := by decide +kernel
theorem dX6_turnName_33 : decode cX6_turnName 33 = .ok (.if_icmp .gt 25, 3) := by decide +kernel
theorem dX6_turnName_36 : decode cX6_turnName 36 = .ok (.aload_n 0, 1) := by decide +kernel
theorem dX6_turnName_37 : decode cX6_turnName 37 = .ok (.getfield 66, 3) := by decide +kernel
theorem dX6_turnName_40 : decode cX6_turnName 40 = .ok (.getfield 233, 3) := by decide +kernel
theorem dX6_turnName_43 : decode cX6_turnName 43 = .ok (.iconst 0, 1) := by decide +kernel
theorem dX6_turnName_44 : decode cX6_turnName 44 = .ok (.aload_n 0, 1) := by decide +kernel
theorem dX6_turnName_45 : decode cX6_turnName 45 = .ok (.getfield 66, 3) := by decide +kernel
theorem dX6_turnName_48 : decode cX6_turnName 48 = .ok (.getfield 232, 3) := by decide +kernel
theorem dX6_turnName_51 : decode cX6_turnName 51 = .ok (.invokestatic 236, 3) := by decide +kernel
theorem dX6_turnName_54 : decode cX6_turnName 54 = .ok (.iconst 1, 1) := by decide +kernel
theorem dX6_turnName_55 : decode cX6_turnName 55 = .ok (.if_icmp .eq 5, 3) := by decide +kernel
theorem dX6_turnName_58 : decode cX6_turnName 58 = .ok (.iconst 0, 1) := by decide +kernel
theorem dX6_turnName_59 : decode cX6_turnName 59 = .ok (.ireturn, 1) := by decide +kernel
theorem dX6_turnName_60 : decode cX6_turnName 60 = .ok (.aload_n 0, 1) := by decide +kernel
theorem dX6_turnName_61 : decode cX6_turnName 61 = .ok (.getfield 70, 3) := by decide +kernel
theorem dX6_turnName_64 : decode cX6_turnName 64 = .ok (.iload_n 2, 1) := by decide +kernel
theorem dX6_turnName_65 : decode cX6_turnName 65 = .ok (.aload_n 0, 1) := by decide +kernel
theorem dX6_turnName_66 : decode cX6_turnName 66 = .ok (.getfield 56, 3) := by decide +kernel
theorem dX6_turnName_69 : decode cX6_turnName 69 = .ok (.getfield 220, 3) := by decide +kernel
theorem dX6_turnName_72 : decode cX6_turnName 72 = .ok (.iastore, 1) := by decide +kernel
theorem dX6_turnName_73 : decode cX6_turnName 73 = .ok (.aload_n 0, 1) := by decide +kernel
theorem dX6_turnName_74 : decode cX6_turnName 74 = .ok (.getfield 56, 3) := by decide +kernel
theorem dX6_turnName_77 : decode cX6_turnName 77 = .ok (.aload_n 0, 1) := by decide +kernel
theorem dX6_turnName_78 : decode cX6_turnName 78 = .ok (.getfield 66, 3) := by decide +kernel
theorem dX6_turnName_81 : decode cX6_turnName 81 = .ok (.getfield 233, 3) := by decide +kernel
theorem dX6_turnName_84 : decode cX6_turnName 84 = .ok (.iconst 0, 1) := by decide +kernel
theorem dX6_turnName_85 : decode cX6_turnName 85 = .ok (.aload_n 0, 1) := by decide +kernel
theorem dX6_turnName_86 : decode cX6_turnName 86 = .ok (.getfield 66, 3) := by decide +kernel
theorem dX6_turnName_89 : decode cX6_turnName 89 = .ok (.getfield 232, 3) := by decide +kernel
theorem dX6_turnName_92 : decode cX6_turnName 92 = .ok (.invokevirtual 210, 3) := by decide +kernel
theorem dX6_turnName_95 : decode cX6_turnName 95 = .ok (.aload_n 0, 1) := by decide +kernel
theorem dX6_turnName_96 : decode cX6_turnName 96 = .ok (.getfield 74, 3) := by decide +kernel
theorem dX6_turnName_99 : decode cX6_turnName 99 = .ok (.iload_n 2, 1) := by decide +kernel
theorem dX6_turnName_100 : decode cX6_turnName 100 = .ok (.aload_n 0, 1) := by decide +kernel
theorem dX6_turnName_101 : decode cX6_turnName 101 = .ok (.getfield 56, 3) := by decide +kernel
theorem dX6_turnName_104 : decode cX6_turnName 104 = .ok (.getfield 220, 3) := by decide +kernel
theorem dX6_turnName_107 : decode cX6_turnName 107 = .ok (.iastore, 1) := by decide +kernel
theorem dX6_turnName_108 : decode cX6_turnName 108 = .ok (.aload_n 0, 1) := by decide +kernel
theorem dX6_turnName_109 : decode cX6_turnName 109 = .ok (.aload_n 1, 1) := by decide +kernel
theorem dX6_turnName_110 : decode cX6_turnName 110 = .ok (.iload_n 2, 1) := by decide +kernel
theorem dX6_turnName_111 : decode cX6_turnName 111 = .ok (.invokevirtual 240, 3) := by decide +kernel
theorem dX6_turnName_114 : decode cX6_turnName 114 = .ok (.ifCond .ne 7, 3) := by decide +kernel
theorem dX6_turnName_117 : decode cX6_turnName 117 = .ok (.iconst 1, 1) := by decide +kernel
theorem dX6_turnName_118 : decode cX6_turnName 118 = .ok (.goto 4, 3) := by decide +kernel
theorem dX6_turnName_121 : decode cX6_turnName 121 = .ok (.iconst 0, 1) := by decide +kernel
theorem dX6_turnName_122 : decode cX6_turnName 122 = .ok (.ireturn, 1) := by decide +kernel
theorem dX6_meetsUnlikeName_0 : decode cX6_meetsUnlikeName 0 = .ok (.iconst 0, 1) := by decide +kernel
theorem dX6_meetsUnlikeName_1 : decode cX6_meetsUnlikeName 1 = .ok (.istore_n 3, 1) := by decide +kernel
theorem dX6_meetsUnlikeName_2 : decode cX6_meetsUnlikeName 2 = .ok (.iload_n 3, 1) := by decide +kernel
theorem dX6_meetsUnlikeName_3 : decode cX6_meetsUnlikeName 3 = .ok (.iload_n 2, 1) := by decide +kernel
theorem dX6_meetsUnlikeName_4 : decode cX6_meetsUnlikeName 4 = .ok (.if_icmp .ge 75, 3) := by decide +kernel
theorem dX6_meetsUnlikeName_7 : decode cX6_meetsUnlikeName 7 = .ok (.aload_n 1, 1) := by decide +kernel
theorem dX6_meetsUnlikeName_8 : decode cX6_meetsUnlikeName 8 = .ok (.getfield 221, 3) := by decide +kernel
theorem dX6_meetsUnlikeName_11 : decode cX6_meetsUnlikeName 11 = .ok (.iload_n 3, 1) := by decide +kernel
theorem dX6_meetsUnlikeName_12 : decode cX6_meetsUnlikeName 12 = .ok (.iaload, 1) := by decide +kernel
theorem dX6_meetsUnlikeName_13 : decode cX6_meetsUnlikeName 13 = .ok (.iconst 1, 1) := by decide +kernel
theorem dX6_meetsUnlikeName_14 : decode cX6_meetsUnlikeName 14 = .ok (.if_icmp .ne 59, 3) := by decide +kernel
theorem dX6_meetsUnlikeName_17 : decode cX6_meetsUnlikeName 17 = .ok (.aload_n 0, 1) := by decide +kernel
theorem dX6_meetsUnlikeName_18 : decode cX6_meetsUnlikeName 18 = .ok (.getfield 56, 3) := by decide +kernel
theorem dX6_meetsUnlikeName_21 : decode cX6_meetsUnlikeName 21 = .ok (.getfield 244, 3) := by decide +kernel
theorem dX6_meetsUnlikeName_24 : decode cX6_meetsUnlikeName 24 = .ok (.aload_n 0, 1) := by decide +kernel
theorem dX6_meetsUnlikeName_25 : decode cX6_meetsUnlikeName 25 = .ok (.getfield 70, 3) := by decide +kernel
theorem dX6_meetsUnlikeName_28 : decode cX6_meetsUnlikeName 28 = .ok (.iload_n 3, 1) := by decide +kernel
theorem dX6_meetsUnlikeName_29 : decode cX6_meetsUnlikeName 29 = .ok (.iaload, 1) := by decide +kernel
theorem dX6_meetsUnlikeName_30 : decode cX6_meetsUnlikeName 30 = .ok (.aload_n 0, 1) := by decide +kernel
theorem dX6_meetsUnlikeName_31 : decode cX6_meetsUnlikeName 31 = .ok (.getfield 74, 3) := by decide +kernel
theorem dX6_meetsUnlikeName_34 : decode cX6_meetsUnlikeName 34 = .ok (.iload_n 3, 1) := by decide +kernel
theorem dX6_meetsUnlikeName_35 : decode cX6_meetsUnlikeName 35 = .ok (.iaload, 1) := by decide +kernel
theorem dX6_meetsUnlikeName_36 : decode cX6_meetsUnlikeName 36 = .ok (.aload_n 0, 1) := by decide +kernel
theorem dX6_meetsUnlikeName_37 : decode cX6_meetsUnlikeName 37 = .ok (.getfield 56, 3) := by decide +kernel
theorem dX6_meetsUnlikeName_40 : decode cX6_meetsUnlikeName 40 = .ok (.getfield 244, 3) := by decide +kernel
theorem dX6_meetsUnlikeName_43 : decode cX6_meetsUnlikeName 43 = .ok (.aload_n 0, 1) := by decide +kernel
theorem dX6_meetsUnlikeName_44 : decode cX6_meetsUnlikeName 44 = .ok (.getfield 70, 3) := by decide +kernel
theorem dX6_meetsUnlikeName_47 : decode cX6_meetsUnlikeName 47 = .ok (.iload_n 2, 1) := by decide +kernel
theorem dX6_meetsUnlikeName_48 : decode cX6_meetsUnlikeName 48 = .ok (.iaload, 1) := by decide +kernel
theorem dX6_meetsUnlikeName_49 : decode cX6_meetsUnlikeName 49 = .ok (.aload_n 0, 1) := by decide +kernel
theorem dX6_meetsUnlikeName_50 : decode cX6_meetsUnlikeName 50 = .ok (.getfield 74, 3) := by decide +kernel
theorem dX6_meetsUnlikeName_53 : decode cX6_meetsUnlikeName 53 = .ok (.iload_n 2, 1) := by decide +kernel
theorem dX6_meetsUnlikeName_54 : decode cX6_meetsUnlikeName 54 = .ok (.iaload, 1) := by decide +kernel
theorem dX6_meetsUnlikeName_55 : decode cX6_meetsUnlikeName 55 = .ok (.invokestatic 247, 3) := by decide +kernel
theorem dX6_meetsUnlikeName_58 : decode cX6_meetsUnlikeName 58 = .ok (.ifCond .eq 15, 3) := by decide +kernel
theorem dX6_meetsUnlikeName_61 : decode cX6_meetsUnlikeName 61 = .ok (.aload_n 1, 1) := by decide +kernel
theorem dX6_meetsUnlikeName_62 : decode cX6_meetsUnlikeName 62 = .ok (.iload_n 3, 1) := by decide +kernel
theorem dX6_meetsUnlikeName_63 : decode cX6_meetsUnlikeName 63 = .ok (.aload_n 1, 1) := by decide +kernel
theorem dX6_meetsUnlikeName_64 : decode cX6_meetsUnlikeName 64 = .ok (.iload_n 2, 1) := by decide +kernel
theorem dX6_meetsUnlikeName_65 : decode cX6_meetsUnlikeName 65 = .ok (.invokevirtual 251, 3) := by decide +kernel
theorem dX6_meetsUnlikeName_68 : decode cX6_meetsUnlikeName 68 = .ok (.ifCond .ne 5, 3) := by decide +kernel
theorem dX6_meetsUnlikeName_71 : decode cX6_meetsUnlikeName 71 = .ok (.iconst 1, 1) := by decide +kernel
theorem dX6_meetsUnlikeName_72 : decode cX6_meetsUnlikeName 72 = .ok (.ireturn, 1) := by decide +kernel
theorem dX6_meetsUnlikeName_73 : decode cX6_meetsUnlikeName 73 = .ok (.iinc 3 1, 3) := by decide +kernel
theorem dX6_meetsUnlikeName_76 : decode cX6_meetsUnlikeName 76 = .ok (.goto (-74), 3) := by decide +kernel
theorem dX6_meetsUnlikeName_79 : decode cX6_meetsUnlikeName 79 = .ok (.iconst 0, 1) := by decide +kernel
theorem dX6_meetsUnlikeName_80 : decode cX6_meetsUnlikeName 80 = .ok (.ireturn, 1) := by decide +kernel
theorem dX6_house_0 : decode cX6_house 0 = .ok (.iconst 0, 1) := by decide +kernel
theorem dX6_house_1 : decode cX6_house 1 = .ok (.istore_n 1, 1) := by decide +kernel
theorem dX6_house_2 : decode cX6_house 2 = .ok (.iconst 0, 1) := by decide +kernel
theorem dX6_house_3 : decode cX6_house 3 = .ok (.istore_n 2, 1) := by decide +kernel
theorem dX6_house_4 : decode cX6_house 4 = .ok (.iconst 0, 1) := by decide +kernel
theorem dX6_house_5 : decode cX6_house 5 = .ok (.istore_n 3, 1) := by decide +kernel
theorem dX6_house_6 : decode cX6_house 6 = .ok (.iload_n 3, 1) := by decide +kernel
theorem dX6_house_7 : decode cX6_house 7 = .ok (.bipush 12, 2) := by decide +kernel
theorem dX6_house_9 : decode cX6_house 9 = .ok (.if_icmp .ge 49, 3) := by decide +kernel
theorem dX6_house_12 : decode cX6_house 12 = .ok (.aload_n 0, 1) := by decide +kernel
theorem dX6_house_13 : decode cX6_house 13 = .ok (.getfield 15, 3) := by decide +kernel
theorem dX6_house_16 : decode cX6_house 16 = .ok (.iload_n 3, 1) := by decide +kernel
theorem dX6_house_17 : decode cX6_house 17 = .ok (.aaload, 1) := by decide +kernel
theorem dX6_house_18 : decode cX6_house 18 = .ok (.getfield 114, 3) := by decide +kernel
theorem dX6_house_21 : decode cX6_house 21 = .ok (.ifCond .eq 31, 3) := by decide +kernel
theorem dX6_house_24 : decode cX6_house 24 = .ok (.iload_n 1, 1) := by decide +kernel
theorem dX6_house_25 : decode cX6_house 25 = .ok (.aload_n 0, 1) := by decide +kernel
theorem dX6_house_26 : decode cX6_house 26 = .ok (.aload_n 0, 1) := by decide +kernel
theorem dX6_house_27 : decode cX6_house 27 = .ok (.getfield 15, 3) := by decide +kernel
theorem dX6_house_30 : decode cX6_house 30 = .ok (.iload_n 3, 1) := by decide +kernel
theorem dX6_house_31 : decode cX6_house 31 = .ok (.aaload, 1) := by decide +kernel
theorem dX6_house_32 : decode cX6_house 32 = .ok (.iconst 0, 1) := by decide +kernel
theorem dX6_house_33 : decode cX6_house 33 = .ok (.invokevirtual 255, 3) := by decide +kernel
theorem dX6_house_36 : decode cX6_house 36 = .ok (.iadd, 1) := by decide +kernel
theorem dX6_house_37 : decode cX6_house 37 = .ok (.istore_n 1, 1) := by decide +kernel
theorem dX6_house_38 : decode cX6_house 38 = .ok (.iload_n 2, 1) := by decide +kernel
theorem dX6_house_39 : decode cX6_house 39 = .ok (.aload_n 0, 1) := by decide +kernel
theorem dX6_house_40 : decode cX6_house 40 = .ok (.aload_n 0, 1) := by decide +kernel
theorem dX6_house_41 : decode cX6_house 41 = .ok (.getfield 15, 3) := by decide +kernel
theorem dX6_house_44 : decode cX6_house 44 = .ok (.iload_n 3, 1) := by decide +kernel
theorem dX6_house_45 : decode cX6_house 45 = .ok (.aaload, 1) := by decide +kernel
theorem dX6_house_46 : decode cX6_house 46 = .ok (.iconst 1, 1) := by decide +kernel
theorem dX6_house_47 : decode cX6_house 47 = .ok (.invokevirtual 255, 3) := by decide +kernel
theorem dX6_house_50 : decode cX6_house 50 = .ok (.iadd, 1) := by decide +kernel
theorem dX6_house_51 : decode cX6_house 51 = .ok (.istore_n 2, 1) := by decide +kernel
theorem dX6_house_52 : decode cX6_house 52 = .ok (.iinc 3 1, 3) := by decide +kernel
theorem dX6_house_55 : decode cX6_house 55 = .ok (.goto (-49), 3) := by decide +kernel
theorem dX6_house_58 : decode cX6_house 58 = .ok (.iload_n 1, 1) := by decide +kernel
theorem dX6_house_59 : decode cX6_house 59 = .ok (.iload_n 2, 1) := by decide +kernel
theorem dX6_house_60 : decode cX6_house 60 = .ok (.if_icmp .ne 5, 3) := by decide +kernel
theorem dX6_house_63 : decode cX6_house 63 = .ok (.iconst (-1), 1) := by decide +kernel
theorem dX6_house_64 : decode cX6_house 64 = .ok (.ireturn, 1) := by decide +kernel
theorem dX6_house_65 : decode cX6_house 65 = .ok (.iload_n 1, 1) := by decide +kernel
theorem dX6_house_66 : decode cX6_house 66 = .ok (.iload_n 2, 1) := by decide +kernel
theorem dX6_house_67 : decode cX6_house 67 = .ok (.if_icmp .le 7, 3) := by decide +kernel
theorem dX6_house_70 : decode cX6_house 70 = .ok (.iconst 0, 1) := by decide +kernel
theorem dX6_house_71 : decode cX6_house 71 = .ok (.goto 4, 3) := by decide +kernel
theorem dX6_house_74 : decode cX6_house 74 = .ok (.iconst 1, 1) := by decide +kernel
theorem dX6_house_75 : decode cX6_house 75 = .ok (.ireturn, 1) := by decide +kernel
theorem dX6_countMade_0 : decode cX6_countMade 0 = .ok (.iconst 0, 1) := by decide +kernel
theorem dX6_countMade_1 : decode cX6_countMade 1 = .ok (.istore_n 3, 1) := by decide +kernel
theorem dX6_countMade_2 : decode cX6_countMade 2 = .ok (.iconst 0, 1) := by decide +kernel
theorem dX6_countMade_3 : decode cX6_countMade 3 = .ok (.istore 4, 2) := by decide +kernel
theorem dX6_countMade_5 : decode cX6_countMade 5 = .ok (.iload 4, 2) := by decide +kernel
theorem dX6_countMade_7 : decode cX6_countMade 7 = .ok (.aload_n 1, 1) := by decide +kernel
theorem dX6_countMade_8 : decode cX6_countMade 8 = .ok (.getfield 128, 3) := by decide +kernel
theorem dX6_countMade_11 : decode cX6_countMade 11 = .ok (.if_icmp .ge 97, 3) := by decide +kernel
theorem dX6_countMade_14 : decode cX6_countMade 14 = .ok (.aload_n 1, 1) := by decide +kernel
theorem dX6_countMade_15 : decode cX6_countMade 15 = .ok (.getfield 221, 3) := by decide +kernel
theorem dX6_countMade_18 : decode cX6_countMade 18 = .ok (.iload 4, 2) := by decide +kernel
theorem dX6_countMade_20 : decode cX6_countMade 20 = .ok (.iaload, 1) := by decide +kernel
theorem dX6_countMade_21 : decode cX6_countMade 21 = .ok (.iconst 1, 1) := by decide +kernel
theorem dX6_countMade_22 : decode cX6_countMade 22 = .ok (.if_icmp .ne 80, 3) := by decide +kernel
theorem dX6_countMade_25 : decode cX6_countMade 25 = .ok (.aload_n 1, 1) := by decide +kernel
theorem dX6_countMade_26 : decode cX6_countMade 26 = .ok (.getfield 204, 3) := by decide +kernel
theorem dX6_countMade_29 : decode cX6_countMade 29 = .ok (.iload 4, 2) := by decide +kernel
theorem dX6_countMade_31 : decode cX6_countMade 31 = .ok (.iaload, 1) := by decide +kernel
theorem dX6_countMade_32 : decode cX6_countMade 32 = .ok (.istore 5, 2) := by decide +kernel
theorem dX6_countMade_34 : decode cX6_countMade 34 = .ok (.aload_n 1, 1) := by decide +kernel
theorem dX6_countMade_35 : decode cX6_countMade 35 = .ok (.getfield 207, 3) := by decide +kernel
theorem dX6_countMade_38 : decode cX6_countMade 38 = .ok (.iload 4, 2) := by decide +kernel
theorem dX6_countMade_40 : decode cX6_countMade 40 = .ok (.iaload, 1) := by decide +kernel
theorem dX6_countMade_41 : decode cX6_countMade 41 = .ok (.istore 6, 2) := by decide +kernel
theorem dX6_countMade_43 : decode cX6_countMade 43 = .ok (.aload_n 0, 1) := by decide +kernel
theorem dX6_countMade_44 : decode cX6_countMade 44 = .ok (.getfield 66, 3) := by decide +kernel
theorem dX6_countMade_47 : decode cX6_countMade 47 = .ok (.aload_n 1, 1) := by decide +kernel
theorem dX6_countMade_48 : decode cX6_countMade 48 = .ok (.getfield 201, 3) := by decide +kernel
theorem dX6_countMade_51 : decode cX6_countMade 51 = .ok (.iload 5, 2) := by decide +kernel
theorem dX6_countMade_53 : decode cX6_countMade 53 = .ok (.iload 6, 2) := by decide +kernel
theorem dX6_countMade_55 : decode cX6_countMade 55 = .ok (.iload_n 2, 1) := by decide +kernel
theorem dX6_countMade_56 : decode cX6_countMade 56 = .ok (.invokevirtual 228, 3) := by decide +kernel
theorem dX6_countMade_59 : decode cX6_countMade 59 = .ok (.aload_n 0, 1) := by decide +kernel
theorem dX6_countMade_60 : decode cX6_countMade 60 = .ok (.getfield 66, 3) := by decide +kernel
theorem dX6_countMade_63 : decode cX6_countMade 63 = .ok (.getfield 258, 3) := by decide +kernel
theorem dX6_countMade_66 : decode cX6_countMade 66 = .ok (.iconst 1, 1) := by decide +kernel
theorem dX6_countMade_67 : decode cX6_countMade 67 = .ok (.if_icmp .le 35, 3) := by decide +kernel
theorem dX6_countMade_70 : decode cX6_countMade 70 = .ok (.aload_n 0, 1) := by decide +kernel
theorem dX6_countMade_71 : decode cX6_countMade 71 = .ok (.getfield 66, 3) := by decide +kernel
theorem dX6_countMade_74 : decode cX6_countMade 74 = .ok (.getfield 233, 3) := by decide +kernel
theorem dX6_countMade_77 : decode cX6_countMade 77 = .ok (.iconst 0, 1) := by decide +kernel
theorem dX6_countMade_78 : decode cX6_countMade 78 = .ok (.aload_n 0, 1) := by decide +kernel
theorem dX6_countMade_79 : decode cX6_countMade 79 = .ok (.getfield 66, 3) := by decide +kernel
theorem dX6_countMade_82 : decode cX6_countMade 82 = .ok (.getfield 232, 3) := by decide +kernel
theorem dX6_countMade_85 : decode cX6_countMade 85 = .ok (.aload_n 1, 1) := by decide +kernel
theorem dX6_countMade_86 : decode cX6_countMade 86 = .ok (.getfield 201, 3) := by decide +kernel
theorem dX6_countMade_89 : decode cX6_countMade 89 = .ok (.iload 5, 2) := by decide +kernel
theorem dX6_countMade_91 : decode cX6_countMade 91 = .ok (.iload 6, 2) := by decide +kernel
theorem dX6_countMade_93 : decode cX6_countMade 93 = .ok (.invokestatic 247, 3) := by decide +kernel
theorem dX6_countMade_96 : decode cX6_countMade 96 = .ok (.ifCond .eq 6, 3) := by decide +kernel
theorem dX6_countMade_99 : decode cX6_countMade 99 = .ok (.iinc 3 1, 3) := by decide +kernel
theorem dX6_countMade_102 : decode cX6_countMade 102 = .ok (.iinc 4 1, 3) := by decide +kernel
theorem dX6_countMade_105 : decode cX6_countMade 105 = .ok (.goto (-100), 3) := by decide +kernel
theorem dX6_countMade_108 : decode cX6_countMade 108 = .ok (.iload_n 3, 1) := by decide +kernel
theorem dX6_countMade_109 : decode cX6_countMade 109 = .ok (.ireturn, 1) := by decide +kernel
theorem dX6_told_0 : decode cX6_told 0 = .ok (.iload_n 1, 1) := by decide +kernel
theorem dX6_told_1 : decode cX6_told 1 = .ok (.iconst (-1), 1) := by decide +kernel
theorem dX6_told_2 : decode cX6_told 2 = .ok (.if_icmp .ne 11, 3) := by decide +kernel
theorem dX6_told_5 : decode cX6_told 5 = .ok (.aload_n 0, 1) := by decide +kernel
theorem dX6_told_6 : decode cX6_told 6 = .ok (.getfield 56, 3) := by decide +kernel
theorem dX6_told_9 : decode cX6_told 9 = .ok (.getfield 220, 3) := by decide +kernel
theorem dX6_told_12 : decode cX6_told 12 = .ok (.ireturn, 1) := by decide +kernel
theorem dX6_told_13 : decode cX6_told 13 = .ok (.iload_n 1, 1) := by decide +kernel
theorem dX6_told_14 : decode cX6_told 14 = .ok (.ifCond .lt 14, 3) := by decide +kernel
theorem dX6_told_17 : decode cX6_told 17 = .ok (.iload_n 1, 1) := by decide +kernel
theorem dX6_told_18 : decode cX6_told 18 = .ok (.aload_n 0, 1) := by decide +kernel
theorem dX6_told_19 : decode cX6_told 19 = .ok (.getfield 56, 3) := by decide +kernel
theorem dX6_told_22 : decode cX6_told 22 = .ok (.getfield 220, 3) := by decide +kernel
theorem dX6_told_25 : decode cX6_told 25 = .ok (.if_icmp .lt 11, 3) := by decide +kernel
theorem dX6_told_28 : decode cX6_told 28 = .ok (.new 121, 3) := by decide +kernel
theorem dX6_told_31 : decode cX6_told 31 = .ok (.dup, 1) := by decide +kernel
theorem dX6_told_32 : decode cX6_told 32 = .ok (.invokespecial 123, 3) := by decide +kernel
theorem dX6_told_35 : decode cX6_told 35 = .ok (.athrow, 1) := by decide +kernel
theorem dX6_told_36 : decode cX6_told 36 = .ok (.aload_n 0, 1) := by decide +kernel
theorem dX6_told_37 : decode cX6_told 37 = .ok (.getfield 56, 3) := by decide +kernel
theorem dX6_told_40 : decode cX6_told 40 = .ok (.getfield 244, 3) := by decide +kernel
theorem dX6_told_43 : decode cX6_told 43 = .ok (.iload_n 1, 1) := by decide +kernel
theorem dX6_told_44 : decode cX6_told 44 = .ok (.baload, 1) := by decide +kernel
theorem dX6_told_45 : decode cX6_told 45 = .ok (.sipush 255, 3) := by decide +kernel
theorem dX6_told_48 : decode cX6_told 48 = .ok (.iand, 1) := by decide +kernel
theorem dX6_told_49 : decode cX6_told 49 = .ok (.ireturn, 1) := by decide +kernel
theorem dX6_take_0 : decode cX6_take 0 = .ok (.aload_n 0, 1) := by decide +kernel
theorem dX6_take_1 : decode cX6_take 1 = .ok (.iload_n 1, 1) := by decide +kernel
theorem dX6_take_2 : decode cX6_take 2 = .ok (.invokevirtual 124, 3) := by decide +kernel
theorem dX6_take_5 : decode cX6_take 5 = .ok (.astore_n 2, 1) := by decide +kernel
theorem dX6_take_6 : decode cX6_take 6 = .ok (.aload_n 0, 1) := by decide +kernel
theorem dX6_take_7 : decode cX6_take 7 = .ok (.getfield 60, 3) := by decide +kernel
theorem dX6_take_10 : decode cX6_take 10 = .ok (.iload_n 1, 1) := by decide +kernel
theorem dX6_take_11 : decode cX6_take 11 = .ok (.if_icmp .ne 26, 3) := by decide +kernel
theorem dX6_take_14 : decode cX6_take 14 = .ok (.aload_n 0, 1) := by decide +kernel
theorem dX6_take_15 : decode cX6_take 15 = .ok (.getfield 56, 3) := by decide +kernel
theorem dX6_take_18 : decode cX6_take 18 = .ok (.getfield 220, 3) := by decide +kernel
theorem dX6_take_21 : decode cX6_take 21 = .ok (.ifCond .eq 16, 3) := by decide +kernel
theorem dX6_take_24 : decode cX6_take 24 = .ok (.aload_n 0, 1) := by decide +kernel
theorem dX6_take_25 : decode cX6_take 25 = .ok (.getfield 56, 3) := by decide +kernel
theorem dX6_take_28 : decode cX6_take 28 = .ok (.getfield 220, 3) := by decide +kernel
theorem dX6_take_31 : decode cX6_take 31 = .ok (.sipush 800, 3) := by decide +kernel
theorem dX6_take_34 : decode cX6_take 34 = .ok (.if_icmp .le 5, 3) := by decide +kernel
theorem dX6_take_37 : decode cX6_take 37 = .ok (.iconst 0, 1) := by decide +kernel
theorem dX6_take_38 : decode cX6_take 38 = .ok (.ireturn, 1) := by decide +kernel
theorem dX6_take_39 : decode cX6_take 39 = .ok (.aload_n 0, 1) := by decide +kernel
theorem dX6_take_40 : decode cX6_take 40 = .ok (.iload_n 1, 1) := by decide +kernel
theorem dX6_take_41 : decode cX6_take 41 = .ok (.aload_n 2, 1) := by decide +kernel
theorem dX6_take_42 : decode cX6_take 42 = .ok (.getfield 134, 3) := by decide +kernel
theorem dX6_take_45 : decode cX6_take 45 = .ok (.aload_n 0, 1) := by decide +kernel
theorem dX6_take_46 : decode cX6_take 46 = .ok (.getfield 56, 3) := by decide +kernel
theorem dX6_take_49 : decode cX6_take 49 = .ok (.getfield 244, 3) := by decide +kernel
theorem dX6_take_52 : decode cX6_take 52 = .ok (.aload_n 0, 1) := by decide +kernel
theorem dX6_take_53 : decode cX6_take 53 = .ok (.getfield 56, 3) := by decide +kernel
theorem dX6_take_56 : decode cX6_take 56 = .ok (.getfield 220, 3) := by decide +kernel
theorem dX6_take_59 : decode cX6_take 59 = .ok (.invokevirtual 93, 3) := by decide +kernel
theorem dX6_take_62 : decode cX6_take 62 = .ok (.ifCond .ne 7, 3) := by decide +kernel
theorem dX6_take_65 : decode cX6_take 65 = .ok (.iconst 1, 1) := by decide +kernel
theorem dX6_take_66 : decode cX6_take 66 = .ok (.goto 4, 3) := by decide +kernel
theorem dX6_take_69 : decode cX6_take 69 = .ok (.iconst 0, 1) := by decide +kernel
theorem dX6_take_70 : decode cX6_take 70 = .ok (.ireturn, 1) := by decide +kernel
theorem dX6_alike_0 : decode cX6_alike 0 = .ok (.aload_n 0, 1) := by decide +kernel
theorem dX6_alike_1 : decode cX6_alike 1 = .ok (.iload_n 1, 1) := by decide +kernel
theorem dX6_alike_2 : decode cX6_alike 2 = .ok (.invokevirtual 124, 3) := by decide +kernel
theorem dX6_alike_5 : decode cX6_alike 5 = .ok (.astore_n 3, 1) := by decide +kernel
theorem dX6_alike_6 : decode cX6_alike 6 = .ok (.aload_n 0, 1) := by decide +kernel
theorem dX6_alike_7 : decode cX6_alike 7 = .ok (.iload_n 2, 1) := by decide +kernel
theorem dX6_alike_8 : decode cX6_alike 8 = .ok (.invokevirtual 124, 3) := by decide +kernel
theorem dX6_alike_11 : decode cX6_alike 11 = .ok (.astore 4, 2) := by decide +kernel
theorem dX6_alike_13 : decode cX6_alike 13 = .ok (.aload_n 3, 1) := by decide +kernel
theorem dX6_alike_14 : decode cX6_alike 14 = .ok (.getfield 128, 3) := by decide +kernel
theorem dX6_alike_17 : decode cX6_alike 17 = .ok (.aload 4, 2) := by decide +kernel
theorem dX6_alike_19 : decode cX6_alike 19 = .ok (.getfield 128, 3) := by decide +kernel
theorem dX6_alike_22 : decode cX6_alike 22 = .ok (.if_icmp .eq 5, 3) := by decide +kernel
theorem dX6_alike_25 : decode cX6_alike 25 = .ok (.iconst 0, 1) := by decide +kernel
theorem dX6_alike_26 : decode cX6_alike 26 = .ok (.ireturn, 1) := by decide +kernel
theorem dX6_alike_27 : decode cX6_alike 27 = .ok (.iconst 0, 1) := by decide +kernel
theorem dX6_alike_28 : decode cX6_alike 28 = .ok (.istore 5, 2) := by decide +kernel
theorem dX6_alike_30 : decode cX6_alike 30 = .ok (.iload 5, 2) := by decide +kernel
theorem dX6_alike_32 : decode cX6_alike 32 = .ok (.aload_n 3, 1) := by decide +kernel
theorem dX6_alike_33 : decode cX6_alike 33 = .ok (.getfield 128, 3) := by decide +kernel
theorem dX6_alike_36 : decode cX6_alike 36 = .ok (.if_icmp .ge 24, 3) := by decide +kernel
theorem dX6_alike_39 : decode cX6_alike 39 = .ok (.aload_n 3, 1) := by decide +kernel
theorem dX6_alike_40 : decode cX6_alike 40 = .ok (.iload 5, 2) := by decide +kernel
theorem dX6_alike_42 : decode cX6_alike 42 = .ok (.aload 4, 2) := by decide +kernel
theorem dX6_alike_44 : decode cX6_alike 44 = .ok (.iload 5, 2) := by decide +kernel
theorem dX6_alike_46 : decode cX6_alike 46 = .ok (.invokevirtual 251, 3) := by decide +kernel
theorem dX6_alike_49 : decode cX6_alike 49 = .ok (.ifCond .ne 5, 3) := by decide +kernel
theorem dX6_alike_52 : decode cX6_alike 52 = .ok (.iconst 0, 1) := by decide +kernel
theorem dX6_alike_53 : decode cX6_alike 53 = .ok (.ireturn, 1) := by decide +kernel
theorem dX6_alike_54 : decode cX6_alike 54 = .ok (.iinc 5 1, 3) := by decide +kernel
theorem dX6_alike_57 : decode cX6_alike 57 = .ok (.goto (-27), 3) := by decide +kernel
theorem dX6_alike_60 : decode cX6_alike 60 = .ok (.iconst 1, 1) := by decide +kernel
theorem dX6_alike_61 : decode cX6_alike 61 = .ok (.ireturn, 1) := by decide +kernel
theorem dX6_same_0 : decode cX6_same 0 = .ok (.iload_n 2, 1) := by decide +kernel
theorem dX6_same_1 : decode cX6_same 1 = .ok (.iload_n 1, 1) := by decide +kernel
theorem dX6_same_2 : decode cX6_same 2 = .ok (.isub, 1) := by decide +kernel
theorem dX6_same_3 : decode cX6_same 3 = .ok (.istore 6, 2) := by decide +kernel
theorem dX6_same_5 : decode cX6_same 5 = .ok (.iload 5, 2) := by decide +kernel
theorem dX6_same_7 : decode cX6_same 7 = .ok (.iload 4, 2) := by decide +kernel
theorem dX6_same_9 : decode cX6_same 9 = .ok (.isub, 1) := by decide +kernel
theorem dX6_same_10 : decode cX6_same 10 = .ok (.iload 6, 2) := by decide +kernel
theorem dX6_same_12 : decode cX6_same 12 = .ok (.if_icmp .ne 25, 3) := by decide +kernel
theorem dX6_same_15 : decode cX6_same 15 = .ok (.iload_n 1, 1) := by decide +kernel
theorem dX6_same_16 : decode cX6_same 16 = .ok (.ifCond .lt 21, 3) := by decide +kernel
theorem dX6_same_19 : decode cX6_same 19 = .ok (.iload_n 2, 1) := by decide +kernel
theorem dX6_same_20 : decode cX6_same 20 = .ok (.aload_n 0, 1) := by decide +kernel
theorem dX6_same_21 : decode cX6_same 21 = .ok (.arraylength, 1) := by decide +kernel
theorem dX6_same_22 : decode cX6_same 22 = .ok (.if_icmp .gt 15, 3) := by decide +kernel
theorem dX6_same_25 : decode cX6_same 25 = .ok (.iload 4, 2) := by decide +kernel
theorem dX6_same_27 : decode cX6_same 27 = .ok (.ifCond .lt 10, 3) := by decide +kernel
theorem dX6_same_30 : decode cX6_same 30 = .ok (.iload 5, 2) := by decide +kernel
theorem dX6_same_32 : decode cX6_same 32 = .ok (.aload_n 3, 1) := by decide +kernel
theorem dX6_same_33 : decode cX6_same 33 = .ok (.arraylength, 1) := by decide +kernel
theorem dX6_same_34 : decode cX6_same 34 = .ok (.if_icmp .le 5, 3) := by decide +kernel
theorem dX6_same_37 : decode cX6_same 37 = .ok (.iconst 0, 1) := by decide +kernel
theorem dX6_same_38 : decode cX6_same 38 = .ok (.ireturn, 1) := by decide +kernel
theorem dX6_same_39 : decode cX6_same 39 = .ok (.iconst 0, 1) := by decide +kernel
theorem dX6_same_40 : decode cX6_same 40 = .ok (.istore 7, 2) := by decide +kernel
theorem dX6_same_42 : decode cX6_same 42 = .ok (.iload 7, 2) := by decide +kernel
theorem dX6_same_44 : decode cX6_same 44 = .ok (.iload 6, 2) := by decide +kernel
theorem dX6_same_46 : decode cX6_same 46 = .ok (.if_icmp .ge 27, 3) := by decide +kernel
theorem dX6_same_49 : decode cX6_same 49 = .ok (.aload_n 0, 1) := by decide +kernel
theorem dX6_same_50 : decode cX6_same 50 = .ok (.iload_n 1, 1) := by decide +kernel
theorem dX6_same_51 : decode cX6_same 51 = .ok (.iload 7, 2) := by decide +kernel
theorem dX6_same_53 : decode cX6_same 53 = .ok (.iadd, 1) := by decide +kernel
theorem dX6_same_54 : decode cX6_same 54 = .ok (.baload, 1) := by decide +kernel
theorem dX6_same_55 : decode cX6_same 55 = .ok (.aload_n 3, 1) := by decide +kernel
theorem dX6_same_56 : decode cX6_same 56 = .ok (.iload 4, 2) := by decide +kernel
theorem dX6_same_58 : decode cX6_same 58 = .ok (.iload 7, 2) := by decide +kernel
theorem dX6_same_60 : decode cX6_same 60 = .ok (.iadd, 1) := by decide +kernel
theorem dX6_same_61 : decode cX6_same 61 = .ok (.baload, 1) := by decide +kernel
theorem dX6_same_62 : decode cX6_same 62 = .ok (.if_icmp .eq 5, 3) := by decide +kernel
theorem dX6_same_65 : decode cX6_same 65 = .ok (.iconst 0, 1) := by decide +kernel
theorem dX6_same_66 : decode cX6_same 66 = .ok (.ireturn, 1) := by decide +kernel
theorem dX6_same_67 : decode cX6_same 67 = .ok (.iinc 7 1, 3) := by decide +kernel
theorem dX6_same_70 : decode cX6_same 70 = .ok (.goto (-28), 3) := by decide +kernel
theorem dX6_same_73 : decode cX6_same 73 = .ok (.iconst 1, 1) := by decide +kernel
theorem dX6_same_74 : decode cX6_same 74 = .ok (.ireturn, 1) := by decide +kernel
theorem dX6_wordSort_0 : decode cX6_wordSort 0 = .ok (.aload_n 0, 1) := by decide +kernel
theorem dX6_wordSort_1 : decode cX6_wordSort 1 = .ok (.iload_n 1, 1) := by decide +kernel
theorem dX6_wordSort_2 : decode cX6_wordSort 2 = .ok (.iload_n 2, 1) := by decide +kernel
theorem dX6_wordSort_3 : decode cX6_wordSort 3 = .ok (.ldc_w 261, 3) := by decide +kernel
theorem dX6_wordSort_6 : decode cX6_wordSort 6 = .ok (.invokestatic 263, 3) := by decide +kernel
theorem dX6_wordSort_9 : decode cX6_wordSort 9 = .ok (.ifCond .eq 5, 3) := by decide +kernel
theorem dX6_wordSort_12 : decode cX6_wordSort 12 = .ok (.iconst 3, 1) := by decide +kernel
theorem dX6_wordSort_13 : decode cX6_wordSort 13 = .ok (.ireturn, 1) := by decide +kernel
theorem dX6_wordSort_14 : decode cX6_wordSort 14 = .ok (.aload_n 0, 1) := by decide +kernel
theorem dX6_wordSort_15 : decode cX6_wordSort 15 = .ok (.iload_n 1, 1) := by decide +kernel
theorem dX6_wordSort_16 : decode cX6_wordSort 16 = .ok (.iload_n 2, 1) := by decide +kernel
theorem dX6_wordSort_17 : decode cX6_wordSort 17 = .ok (.ldc_w 267, 3) := by decide +kernel
theorem dX6_wordSort_20 : decode cX6_wordSort 20 = .ok (.invokestatic 263, 3) := by decide +kernel
theorem dX6_wordSort_23 : decode cX6_wordSort 23 = .ok (.ifCond .eq 5, 3) := by decide +kernel
theorem dX6_wordSort_26 : decode cX6_wordSort 26 = .ok (.iconst 4, 1) := by decide +kernel
theorem dX6_wordSort_27 : decode cX6_wordSort 27 = .ok (.ireturn, 1) := by decide +kernel
theorem dX6_wordSort_28 : decode cX6_wordSort 28 = .ok (.aload_n 0, 1) := by decide +kernel
theorem dX6_wordSort_29 : decode cX6_wordSort 29 = .ok (.iload_n 1, 1) := by decide +kernel
theorem dX6_wordSort_30 : decode cX6_wordSort 30 = .ok (.iload_n 2, 1) := by decide +kernel
theorem dX6_wordSort_31 : decode cX6_wordSort 31 = .ok (.ldc_w 269, 3) := by decide +kernel
theorem dX6_wordSort_34 : decode cX6_wordSort 34 = .ok (.invokestatic 263, 3) := by decide +kernel
theorem dX6_wordSort_37 : decode cX6_wordSort 37 = .ok (.ifCond .eq 5, 3) := by decide +kernel
theorem dX6_wordSort_40 : decode cX6_wordSort 40 = .ok (.iconst 5, 1) := by decide +kernel
theorem dX6_wordSort_41 : decode cX6_wordSort 41 = .ok (.ireturn, 1) := by decide +kernel
theorem dX6_wordSort_42 : decode cX6_wordSort 42 = .ok (.aload_n 0, 1) := by decide +kernel
theorem dX6_wordSort_43 : decode cX6_wordSort 43 = .ok (.iload_n 1, 1) := by decide +kernel
theorem dX6_wordSort_44 : decode cX6_wordSort 44 = .ok (.iload_n 2, 1) := by decide +kernel
theorem dX6_wordSort_45 : decode cX6_wordSort 45 = .ok (.ldc_w 271, 3) := by decide +kernel
theorem dX6_wordSort_48 : decode cX6_wordSort 48 = .ok (.invokestatic 263, 3) := by decide +kernel
theorem dX6_wordSort_51 : decode cX6_wordSort 51 = .ok (.ifCond .eq 8, 3) := by decide +kernel
theorem dX6_wordSort_54 : decode cX6_wordSort 54 = .ok (.bipush 6, 2) := by decide +kernel
theorem dX6_wordSort_56 : decode cX6_wordSort 56 = .ok (.goto 4, 3) := by decide +kernel
theorem dX6_wordSort_59 : decode cX6_wordSort 59 = .ok (.iconst 1, 1) := by decide +kernel
theorem dX6_wordSort_60 : decode cX6_wordSort 60 = .ok (.ireturn, 1) := by decide +kernel
theorem dX6_spells_0 : decode cX6_spells 0 = .ok (.aload_n 3, 1) := by decide +kernel
theorem dX6_spells_1 : decode cX6_spells 1 = .ok (.invokevirtual 273, 3) := by decide +kernel
theorem dX6_spells_4 : decode cX6_spells 4 = .ok (.istore 4, 2) := by decide +kernel
theorem dX6_spells_6 : decode cX6_spells 6 = .ok (.iload_n 2, 1) := by decide +kernel
theorem dX6_spells_7 : decode cX6_spells 7 = .ok (.iload_n 1, 1) := by decide +kernel
theorem dX6_spells_8 : decode cX6_spells 8 = .ok (.isub, 1) := by decide +kernel
theorem dX6_spells_9 : decode cX6_spells 9 = .ok (.iload 4, 2) := by decide +kernel
theorem dX6_spells_11 : decode cX6_spells 11 = .ok (.if_icmp .ne 13, 3) := by decide +kernel
theorem dX6_spells_14 : decode cX6_spells 14 = .ok (.iload_n 1, 1) := by decide +kernel
theorem dX6_spells_15 : decode cX6_spells 15 = .ok (.ifCond .lt 9, 3) := by decide +kernel
theorem dX6_spells_18 : decode cX6_spells 18 = .ok (.iload_n 2, 1) := by decide +kernel
theorem dX6_spells_19 : decode cX6_spells 19 = .ok (.aload_n 0, 1) := by decide +kernel
theorem dX6_spells_20 : decode cX6_spells 20 = .ok (.arraylength, 1) := by decide +kernel
theorem dX6_spells_21 : decode cX6_spells 21 = .ok (.if_icmp .le 5, 3) := by decide +kernel
theorem dX6_spells_24 : decode cX6_spells 24 = .ok (.iconst 0, 1) := by decide +kernel
theorem dX6_spells_25 : decode cX6_spells 25 = .ok (.ireturn, 1) := by decide +kernel
theorem dX6_spells_26 : decode cX6_spells 26 = .ok (.iconst 0, 1) := by decide +kernel
theorem dX6_spells_27 : decode cX6_spells 27 = .ok (.istore 5, 2) := by decide +kernel
theorem dX6_spells_29 : decode cX6_spells 29 = .ok (.iload 5, 2) := by decide +kernel
theorem dX6_spells_31 : decode cX6_spells 31 = .ok (.iload 4, 2) := by decide +kernel
theorem dX6_spells_33 : decode cX6_spells 33 = .ok (.if_icmp .ge 26, 3) := by decide +kernel
theorem dX6_spells_36 : decode cX6_spells 36 = .ok (.aload_n 0, 1) := by decide +kernel
theorem dX6_spells_37 : decode cX6_spells 37 = .ok (.iload_n 1, 1) := by decide +kernel
theorem dX6_spells_38 : decode cX6_spells 38 = .ok (.iload 5, 2) := by decide +kernel
theorem dX6_spells_40 : decode cX6_spells 40 = .ok (.iadd, 1) := by decide +kernel
theorem dX6_spells_41 : decode cX6_spells 41 = .ok (.baload, 1) := by decide +kernel
theorem dX6_spells_42 : decode cX6_spells 42 = .ok (.aload_n 3, 1) := by decide +kernel
theorem dX6_spells_43 : decode cX6_spells 43 = .ok (.iload 5, 2) := by decide +kernel
theorem dX6_spells_45 : decode cX6_spells 45 = .ok (.invokevirtual 277, 3) := by decide +kernel
theorem dX6_spells_48 : decode cX6_spells 48 = .ok (.if_icmp .eq 5, 3) := by decide +kernel
theorem dX6_spells_51 : decode cX6_spells 51 = .ok (.iconst 0, 1) := by decide +kernel
theorem dX6_spells_52 : decode cX6_spells 52 = .ok (.ireturn, 1) := by decide +kernel
theorem dX6_spells_53 : decode cX6_spells 53 = .ok (.iinc 5 1, 3) := by decide +kernel
theorem dX6_spells_56 : decode cX6_spells 56 = .ok (.goto (-27), 3) := by decide +kernel
theorem dX6_spells_59 : decode cX6_spells 59 = .ok (.iconst 1, 1) := by decide +kernel
theorem dX6_spells_60 : decode cX6_spells 60 = .ok (.ireturn, 1) := by decide +kernel
theorem dX6_isGreat_0 : decode cX6_isGreat 0 = .ok (.iload_n 0, 1) := by decide +kernel
theorem dX6_isGreat_1 : decode cX6_isGreat 1 = .ok (.bipush 65, 2) := by decide +kernel
theorem dX6_isGreat_3 : decode cX6_isGreat 3 = .ok (.if_icmp .lt 13, 3) := by decide +kernel
theorem dX6_isGreat_6 : decode cX6_isGreat 6 = .ok (.iload_n 0, 1) := by decide +kernel
theorem dX6_isGreat_7 : decode cX6_isGreat 7 = .ok (.bipush 90, 2) := by decide +kernel
theorem dX6_isGreat_9 : decode cX6_isGreat 9 = .ok (.if_icmp .gt 7, 3) := by decide +kernel
theorem dX6_isGreat_12 : decode cX6_isGreat 12 = .ok (.iconst 1, 1) := by decide +kernel
theorem dX6_isGreat_13 : decode cX6_isGreat 13 = .ok (.goto 4, 3) := by decide +kernel
theorem dX6_isGreat_16 : decode cX6_isGreat 16 = .ok (.iconst 0, 1) := by decide +kernel
theorem dX6_isGreat_17 : decode cX6_isGreat 17 = .ok (.ireturn, 1) := by decide +kernel
theorem dX6_isSmall_0 : decode cX6_isSmall 0 = .ok (.iload_n 0, 1) := by decide +kernel
theorem dX6_isSmall_1 : decode cX6_isSmall 1 = .ok (.bipush 97, 2) := by decide +kernel
theorem dX6_isSmall_3 : decode cX6_isSmall 3 = .ok (.if_icmp .lt 13, 3) := by decide +kernel
theorem dX6_isSmall_6 : decode cX6_isSmall 6 = .ok (.iload_n 0, 1) := by decide +kernel
theorem dX6_isSmall_7 : decode cX6_isSmall 7 = .ok (.bipush 122, 2) := by decide +kernel
theorem dX6_isSmall_9 : decode cX6_isSmall 9 = .ok (.if_icmp .gt 7, 3) := by decide +kernel
theorem dX6_isSmall_12 : decode cX6_isSmall 12 = .ok (.iconst 1, 1) := by decide +kernel
theorem dX6_isSmall_13 : decode cX6_isSmall 13 = .ok (.goto 4, 3) := by decide +kernel
theorem dX6_isSmall_16 : decode cX6_isSmall 16 = .ok (.iconst 0, 1) := by decide +kernel
theorem dX6_isSmall_17 : decode cX6_isSmall 17 = .ok (.ireturn, 1) := by decide +kernel
theorem dX6_isDigit_0 : decode cX6_isDigit 0 = .ok (.iload_n 0, 1) := by decide +kernel
theorem dX6_isDigit_1 : decode cX6_isDigit 1 = .ok (.bipush 48, 2) := by decide +kernel
theorem dX6_isDigit_3 : decode cX6_isDigit 3 = .ok (.if_icmp .lt 13, 3) := by decide +kernel
theorem dX6_isDigit_6 : decode cX6_isDigit 6 = .ok (.iload_n 0, 1) := by decide +kernel
theorem dX6_isDigit_7 : decode cX6_isDigit 7 = .ok (.bipush 57, 2) := by decide +kernel
theorem dX6_isDigit_9 : decode cX6_isDigit 9 = .ok (.if_icmp .gt 7, 3) := by decide +kernel
theorem dX6_isDigit_12 : decode cX6_isDigit 12 = .ok (.iconst 1, 1) := by decide +kernel
theorem dX6_isDigit_13 : decode cX6_isDigit 13 = .ok (.goto 4, 3) := by decide +kernel
theorem dX6_isDigit_16 : decode cX6_isDigit 16 = .ok (.iconst 0, 1) := by decide +kernel
theorem dX6_isDigit_17 : decode cX6_isDigit 17 = .ok (.ireturn, 1) := by decide +kernel
theorem dX6_isOperator_0 : decode cX6_isOperator 0 = .ok (.iload_n 0, 1) := by decide +kernel
theorem dX6_isOperator_1 : decode cX6_isOperator 1 = .ok (.bipush 43, 2) := by decide +kernel
theorem dX6_isOperator_3 : decode cX6_isOperator 3 = .ok (.if_icmp .eq 15, 3) := by decide +kernel
theorem dX6_isOperator_6 : decode cX6_isOperator 6 = .ok (.iload_n 0, 1) := by decide +kernel
theorem dX6_isOperator_7 : decode cX6_isOperator 7 = .ok (.bipush 45, 2) := by decide +kernel
theorem dX6_isOperator_9 : decode cX6_isOperator 9 = .ok (.if_icmp .eq 9, 3) := by decide +kernel
theorem dX6_isOperator_12 : decode cX6_isOperator 12 = .ok (.iload_n 0, 1) := by decide +kernel
theorem dX6_isOperator_13 : decode cX6_isOperator 13 = .ok (.bipush 60, 2) := by decide +kernel
theorem dX6_isOperator_15 : decode cX6_isOperator 15 = .ok (.if_icmp .ne 7, 3) := by decide +kernel
theorem dX6_isOperator_18 : decode cX6_isOperator 18 = .ok (.iconst 1, 1) := by decide +kernel
theorem dX6_isOperator_19 : decode cX6_isOperator 19 = .ok (.goto 4, 3) := by decide +kernel
theorem dX6_isOperator_22 : decode cX6_isOperator 22 = .ok (.iconst 0, 1) := by decide +kernel
theorem dX6_isOperator_23 : decode cX6_isOperator 23 = .ok (.ireturn, 1) := by decide +kernel
