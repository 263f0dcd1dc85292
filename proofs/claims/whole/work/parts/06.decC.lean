theorem dX7_init_0 : decode cX7_init 0 = .ok (.aload_n 0, 1) := by decide +kernel
theorem dX7_init_1 : decode cX7_init 1 = .ok (.invokespecial 1, 3) := by decide +kernel
theorem dX7_init_4 : decode cX7_init 4 = .ok (.aload_n 0, 1) := by decide +kernel
theorem dX7_init_5 : decode cX7_init 5 = .ok (.sipush 800, 3) := by decide +kernel
theorem dX7_init_8 : decode cX7_init 8 = .ok (.newarray .int, 2) := by decide +kernel
theorem dX7_init_10 : decode cX7_init 10 = .ok (.putfield 7, 3) := by decide +kernel
theorem dX7_init_13 : decode cX7_init 13 = .ok (.aload_n 0, 1) := by decide +kernel
theorem dX7_init_14 : decode cX7_init 14 = .ok (.iconst (-1), 1) := by decide +kernel
theorem dX7_init_15 : decode cX7_init 15 = .ok (.putfield 13, 3) := by decide +kernel
theorem dX7_init_18 : decode cX7_init 18 = .ok (.aload_n 0, 1) := by decide +kernel
theorem dX7_init_19 : decode cX7_init 19 = .ok (.bipush 12, 2) := by decide +kernel
theorem dX7_init_21 : decode cX7_init 21 = .ok (.newarray .boolean, 2) := by decide +kernel
theorem dX7_init_23 : decode cX7_init 23 = .ok (.putfield 17, 3) := by decide +kernel
theorem dX7_init_26 : decode cX7_init 26 = .ok (.aload_n 0, 1) := by decide +kernel
theorem dX7_init_27 : decode cX7_init 27 = .ok (.sipush 10400, 3) := by decide +kernel
theorem dX7_init_30 : decode cX7_init 30 = .ok (.newarray .int, 2) := by decide +kernel
theorem dX7_init_32 : decode cX7_init 32 = .ok (.putfield 21, 3) := by decide +kernel
theorem dX7_init_35 : decode cX7_init 35 = .ok (.aload_n 0, 1) := by decide +kernel
theorem dX7_init_36 : decode cX7_init 36 = .ok (.bipush 13, 2) := by decide +kernel
theorem dX7_init_38 : decode cX7_init 38 = .ok (.newarray .int, 2) := by decide +kernel
theorem dX7_init_40 : decode cX7_init 40 = .ok (.putfield 24, 3) := by decide +kernel
theorem dX7_init_43 : decode cX7_init 43 = .ok (.aload_n 0, 1) := by decide +kernel
theorem dX7_init_44 : decode cX7_init 44 = .ok (.bipush 13, 2) := by decide +kernel
theorem dX7_init_46 : decode cX7_init 46 = .ok (.newarray .int, 2) := by decide +kernel
theorem dX7_init_48 : decode cX7_init 48 = .ok (.putfield 27, 3) := by decide +kernel
theorem dX7_init_51 : decode cX7_init 51 = .ok (.aload_n 0, 1) := by decide +kernel
theorem dX7_init_52 : decode cX7_init 52 = .ok (.bipush 13, 2) := by decide +kernel
theorem dX7_init_54 : decode cX7_init 54 = .ok (.newarray .int, 2) := by decide +kernel
theorem dX7_init_56 : decode cX7_init 56 = .ok (.putfield 30, 3) := by decide +kernel
theorem dX7_init_59 : decode cX7_init 59 = .ok (.aload_n 0, 1) := by decide +kernel
theorem dX7_init_60 : decode cX7_init 60 = .ok (.bipush 13, 2) := by decide +kernel
theorem dX7_init_62 : decode cX7_init 62 = .ok (.newarray .int, 2) := by decide +kernel
theorem dX7_init_64 : decode cX7_init 64 = .ok (.putfield 33, 3) := by decide +kernel
theorem dX7_init_67 : decode cX7_init 67 = .ok (.aload_n 0, 1) := by decide +kernel
theorem dX7_init_68 : decode cX7_init 68 = .ok (.sipush 2613, 3) := by decide +kernel
theorem dX7_init_71 : decode cX7_init 71 = .ok (.newarray .int, 2) := by decide +kernel
theorem dX7_init_73 : decode cX7_init 73 = .ok (.putfield 36, 3) := by decide +kernel
theorem dX7_init_76 : decode cX7_init 76 = .ok (.aload_n 0, 1) := by decide +kernel
theorem dX7_init_77 : decode cX7_init 77 = .ok (.sipush 2613, 3) := by decide +kernel
theorem dX7_init_80 : decode cX7_init 80 = .ok (.newarray .int, 2) := by decide +kernel
theorem dX7_init_82 : decode cX7_init 82 = .ok (.putfield 39, 3) := by decide +kernel
theorem dX7_init_85 : decode cX7_init 85 = .ok (.aload_n 0, 1) := by decide +kernel
theorem dX7_init_86 : decode cX7_init 86 = .ok (.sipush 2613, 3) := by decide +kernel
theorem dX7_init_89 : decode cX7_init 89 = .ok (.newarray .int, 2) := by decide +kernel
theorem dX7_init_91 : decode cX7_init 91 = .ok (.putfield 42, 3) := by decide +kernel
theorem dX7_init_94 : decode cX7_init 94 = .ok (.aload_n 0, 1) := by decide +kernel
theorem dX7_init_95 : decode cX7_init 95 = .ok (.sipush 2613, 3) := by decide +kernel
theorem dX7_init_98 : decode cX7_init 98 = .ok (.newarray .int, 2) := by decide +kernel
theorem dX7_init_100 : decode cX7_init 100 = .ok (.putfield 45, 3) := by decide +kernel
theorem dX7_init_103 : decode cX7_init 103 = .ok (.aload_n 0, 1) := by decide +kernel
theorem dX7_init_104 : decode cX7_init 104 = .ok (.sipush 2613, 3) := by decide +kernel
theorem dX7_init_107 : decode cX7_init 107 = .ok (.newarray .int, 2) := by decide +kernel
theorem dX7_init_109 : decode cX7_init 109 = .ok (.putfield 48, 3) := by decide +kernel
theorem dX7_init_112 : decode cX7_init 112 = .ok (.aload_n 0, 1) := by decide +kernel
theorem dX7_init_113 : decode cX7_init 113 = .ok (.iconst 2, 1) := by decide +kernel
theorem dX7_init_114 : decode cX7_init 114 = .ok (.newarray .int, 2) := by decide +kernel
theorem dX7_init_116 : decode cX7_init 116 = .ok (.dup, 1) := by decide +kernel
theorem dX7_init_117 : decode cX7_init 117 = .ok (.iconst 0, 1) := by decide +kernel
theorem dX7_init_118 : decode cX7_init 118 = .ok (.iconst 5, 1) := by decide +kernel
theorem dX7_init_119 : decode cX7_init 119 = .ok (.iastore, 1) := by decide +kernel
theorem dX7_init_120 : decode cX7_init 120 = .ok (.dup, 1) := by decide +kernel
theorem dX7_init_121 : decode cX7_init 121 = .ok (.iconst 1, 1) := by decide +kernel
theorem dX7_init_122 : decode cX7_init 122 = .ok (.iconst 2, 1) := by decide +kernel
theorem dX7_init_123 : decode cX7_init 123 = .ok (.iastore, 1) := by decide +kernel
theorem dX7_init_124 : decode cX7_init 124 = .ok (.putfield 51, 3) := by decide +kernel
theorem dX7_init_127 : decode cX7_init 127 = .ok (.aload_n 0, 1) := by decide +kernel
theorem dX7_init_128 : decode cX7_init 128 = .ok (.sipush 128, 3) := by decide +kernel
theorem dX7_init_131 : decode cX7_init 131 = .ok (.newarray .int, 2) := by decide +kernel
theorem dX7_init_133 : decode cX7_init 133 = .ok (.putfield 54, 3) := by decide +kernel
theorem dX7_init_136 : decode cX7_init 136 = .ok (.aload_n 0, 1) := by decide +kernel
theorem dX7_init_137 : decode cX7_init 137 = .ok (.sipush 2000, 3) := by decide +kernel
theorem dX7_init_140 : decode cX7_init 140 = .ok (.newarray .int, 2) := by decide +kernel
theorem dX7_init_142 : decode cX7_init 142 = .ok (.putfield 57, 3) := by decide +kernel
theorem dX7_init_145 : decode cX7_init 145 = .ok (.aload_n 0, 1) := by decide +kernel
theorem dX7_init_146 : decode cX7_init 146 = .ok (.iconst (-1), 1) := by decide +kernel
theorem dX7_init_147 : decode cX7_init 147 = .ok (.putfield 60, 3) := by decide +kernel
theorem dX7_init_150 : decode cX7_init 150 = .ok (.aload_n 0, 1) := by decide +kernel
theorem dX7_init_151 : decode cX7_init 151 = .ok (.sipush 2400, 3) := by decide +kernel
theorem dX7_init_154 : decode cX7_init 154 = .ok (.newarray .int, 2) := by decide +kernel
theorem dX7_init_156 : decode cX7_init 156 = .ok (.putfield 63, 3) := by decide +kernel
theorem dX7_init_159 : decode cX7_init 159 = .ok (.aload_n 0, 1) := by decide +kernel
theorem dX7_init_160 : decode cX7_init 160 = .ok (.sipush 2400, 3) := by decide +kernel
theorem dX7_init_163 : decode cX7_init 163 = .ok (.newarray .int, 2) := by decide +kernel
theorem dX7_init_165 : decode cX7_init 165 = .ok (.putfield 66, 3) := by decide +kernel
theorem dX7_init_168 : decode cX7_init 168 = .ok (.aload_n 0, 1) := by decide +kernel
theorem dX7_init_169 : decode cX7_init 169 = .ok (.sipush 9600, 3) := by decide +kernel
theorem dX7_init_172 : decode cX7_init 172 = .ok (.newarray .int, 2) := by decide +kernel
theorem dX7_init_174 : decode cX7_init 174 = .ok (.putfield 69, 3) := by decide +kernel
theorem dX7_init_177 : decode cX7_init 177 = .ok (.aload_n 0, 1) := by decide +kernel
theorem dX7_init_178 : decode cX7_init 178 = .ok (.bipush 40, 2) := by decide +kernel
theorem dX7_init_180 : decode cX7_init 180 = .ok (.newarray .int, 2) := by decide +kernel
theorem dX7_init_182 : decode cX7_init 182 = .ok (.putfield 72, 3) := by decide +kernel
theorem dX7_init_185 : decode cX7_init 185 = .ok (.aload_n 0, 1) := by decide +kernel
theorem dX7_init_186 : decode cX7_init 186 = .ok (.bipush 40, 2) := by decide +kernel
theorem dX7_init_188 : decode cX7_init 188 = .ok (.newarray .int, 2) := by decide +kernel
theorem dX7_init_190 : decode cX7_init 190 = .ok (.putfield 75, 3) := by decide +kernel
theorem dX7_init_193 : decode cX7_init 193 = .ok (.return_, 1) := by decide +kernel
theorem dX7_thrown_0 : decode cX7_thrown 0 = .ok (.aload_n 0, 1) := by decide +kernel
theorem dX7_thrown_1 : decode cX7_thrown 1 = .ok (.getfield 78, 3) := by decide +kernel
theorem dX7_thrown_4 : decode cX7_thrown 4 = .ok (.ireturn, 1) := by decide +kernel
theorem dX7_right_0 : decode cX7_right 0 = .ok (.aload_n 0, 1) := by decide +kernel
theorem dX7_right_1 : decode cX7_right 1 = .ok (.getfield 78, 3) := by decide +kernel
theorem dX7_right_4 : decode cX7_right 4 = .ok (.ifCond .ne 12, 3) := by decide +kernel
theorem dX7_right_7 : decode cX7_right 7 = .ok (.iload_n 1, 1) := by decide +kernel
theorem dX7_right_8 : decode cX7_right 8 = .ok (.ifCond .ne 8, 3) := by decide +kernel
theorem dX7_right_11 : decode cX7_right 11 = .ok (.aload_n 0, 1) := by decide +kernel
theorem dX7_right_12 : decode cX7_right 12 = .ok (.iload_n 2, 1) := by decide +kernel
theorem dX7_right_13 : decode cX7_right 13 = .ok (.putfield 78, 3) := by decide +kernel
theorem dX7_right_16 : decode cX7_right 16 = .ok (.aload_n 0, 1) := by decide +kernel
theorem dX7_right_17 : decode cX7_right 17 = .ok (.getfield 78, 3) := by decide +kernel
theorem dX7_right_20 : decode cX7_right 20 = .ok (.ifCond .ne 7, 3) := by decide +kernel
theorem dX7_right_23 : decode cX7_right 23 = .ok (.iconst 1, 1) := by decide +kernel
theorem dX7_right_24 : decode cX7_right 24 = .ok (.goto 4, 3) := by decide +kernel
theorem dX7_right_27 : decode cX7_right 27 = .ok (.iconst 0, 1) := by decide +kernel
theorem dX7_right_28 : decode cX7_right 28 = .ok (.ireturn, 1) := by decide +kernel
theorem dX7_feed_0 : decode cX7_feed 0 = .ok (.aload_n 0, 1) := by decide +kernel
theorem dX7_feed_1 : decode cX7_feed 1 = .ok (.iconst 0, 1) := by decide +kernel
theorem dX7_feed_2 : decode cX7_feed 2 = .ok (.putfield 78, 3) := by decide +kernel
theorem dX7_feed_5 : decode cX7_feed 5 = .ok (.aload_n 0, 1) := by decide +kernel
theorem dX7_feed_6 : decode cX7_feed 6 = .ok (.getfield 81, 3) := by decide +kernel
theorem dX7_feed_9 : decode cX7_feed 9 = .ok (.bipush 20, 2) := by decide +kernel
theorem dX7_feed_11 : decode cX7_feed 11 = .ok (.iadd, 1) := by decide +kernel
theorem dX7_feed_12 : decode cX7_feed 12 = .ok (.sipush 800, 3) := by decide +kernel
theorem dX7_feed_15 : decode cX7_feed 15 = .ok (.if_icmp .le 5, 3) := by decide +kernel
theorem dX7_feed_18 : decode cX7_feed 18 = .ok (.iconst (-1), 1) := by decide +kernel
theorem dX7_feed_19 : decode cX7_feed 19 = .ok (.ireturn, 1) := by decide +kernel
theorem dX7_feed_20 : decode cX7_feed 20 = .ok (.aload_n 0, 1) := by decide +kernel
theorem dX7_feed_21 : decode cX7_feed 21 = .ok (.iload_n 1, 1) := by decide +kernel
theorem dX7_feed_22 : decode cX7_feed 22 = .ok (.invokevirtual 84, 3) := by decide +kernel
theorem dX7_feed_25 : decode cX7_feed 25 = .ok (.aload_n 0, 1) := by decide +kernel
theorem dX7_feed_26 : decode cX7_feed 26 = .ok (.iload_n 2, 1) := by decide +kernel
theorem dX7_feed_27 : decode cX7_feed 27 = .ok (.invokevirtual 84, 3) := by decide +kernel
theorem dX7_feed_30 : decode cX7_feed 30 = .ok (.aload_n 0, 1) := by decide +kernel
theorem dX7_feed_31 : decode cX7_feed 31 = .ok (.iload_n 3, 1) := by decide +kernel
theorem dX7_feed_32 : decode cX7_feed 32 = .ok (.invokevirtual 84, 3) := by decide +kernel
theorem dX7_feed_35 : decode cX7_feed 35 = .ok (.aload_n 0, 1) := by decide +kernel
theorem dX7_feed_36 : decode cX7_feed 36 = .ok (.iload 4, 2) := by decide +kernel
theorem dX7_feed_38 : decode cX7_feed 38 = .ok (.invokevirtual 84, 3) := by decide +kernel
theorem dX7_feed_41 : decode cX7_feed 41 = .ok (.aload_n 0, 1) := by decide +kernel
theorem dX7_feed_42 : decode cX7_feed 42 = .ok (.iload 5, 2) := by decide +kernel
theorem dX7_feed_44 : decode cX7_feed 44 = .ok (.invokevirtual 84, 3) := by decide +kernel
theorem dX7_feed_47 : decode cX7_feed 47 = .ok (.aload_n 0, 1) := by decide +kernel
theorem dX7_feed_48 : decode cX7_feed 48 = .ok (.getfield 81, 3) := by decide +kernel
theorem dX7_feed_51 : decode cX7_feed 51 = .ok (.ireturn, 1) := by decide +kernel
theorem dX7_lays_0 : decode cX7_lays 0 = .ok (.bipush 24, 2) := by decide +kernel
theorem dX7_lays_2 : decode cX7_lays 2 = .ok (.istore_n 2, 1) := by decide +kernel
theorem dX7_lays_3 : decode cX7_lays 3 = .ok (.iload_n 2, 1) := by decide +kernel
theorem dX7_lays_4 : decode cX7_lays 4 = .ok (.ifCond .lt 35, 3) := by decide +kernel
theorem dX7_lays_7 : decode cX7_lays 7 = .ok (.aload_n 0, 1) := by decide +kernel
theorem dX7_lays_8 : decode cX7_lays 8 = .ok (.getfield 7, 3) := by decide +kernel
theorem dX7_lays_11 : decode cX7_lays 11 = .ok (.aload_n 0, 1) := by decide +kernel
theorem dX7_lays_12 : decode cX7_lays 12 = .ok (.getfield 81, 3) := by decide +kernel
theorem dX7_lays_15 : decode cX7_lays 15 = .ok (.iload_n 1, 1) := by decide +kernel
theorem dX7_lays_16 : decode cX7_lays 16 = .ok (.iload_n 2, 1) := by decide +kernel
theorem dX7_lays_17 : decode cX7_lays 17 = .ok (.ishr, 1) := by decide +kernel
theorem dX7_lays_18 : decode cX7_lays 18 = .ok (.sipush 255, 3) := by decide +kernel
theorem dX7_lays_21 : decode cX7_lays 21 = .ok (.iand, 1) := by decide +kernel
theorem dX7_lays_22 : decode cX7_lays 22 = .ok (.iastore, 1) := by decide +kernel
theorem dX7_lays_23 : decode cX7_lays 23 = .ok (.aload_n 0, 1) := by decide +kernel
theorem dX7_lays_24 : decode cX7_lays 24 = .ok (.dup, 1) := by decide +kernel
theorem dX7_lays_25 : decode cX7_lays 25 = .ok (.getfield 81, 3) := by decide +kernel
theorem dX7_lays_28 : decode cX7_lays 28 = .ok (.iconst 1, 1) := by decide +kernel
theorem dX7_lays_29 : decode cX7_lays 29 = .ok (.iadd, 1) := by decide +kernel
theorem dX7_lays_30 : decode cX7_lays 30 = .ok (.putfield 81, 3) := by decide +kernel
theorem dX7_lays_33 : decode cX7_lays 33 = .ok (.iinc 2 (-8), 3) := by decide +kernel
theorem dX7_lays_36 : decode cX7_lays 36 = .ok (.goto (-33), 3) := by decide +kernel
theorem dX7_lays_39 : decode cX7_lays 39 = .ok (.return_, 1) := by decide +kernel
theorem dX7_isLetter_0 : decode cX7_isLetter 0 = .ok (.iload_n 0, 1) := by decide +kernel
theorem dX7_isLetter_1 : decode cX7_isLetter 1 = .ok (.bipush 97, 2) := by decide +kernel
theorem dX7_isLetter_3 : decode cX7_isLetter 3 = .ok (.if_icmp .lt 9, 3) := by decide +kernel
theorem dX7_isLetter_6 : decode cX7_isLetter 6 = .ok (.iload_n 0, 1) := by decide +kernel
theorem dX7_isLetter_7 : decode cX7_isLetter 7 = .ok (.bipush 122, 2) := by decide +kernel
theorem dX7_isLetter_9 : decode cX7_isLetter 9 = .ok (.if_icmp .le 15, 3) := by decide +kernel
theorem dX7_isLetter_12 : decode cX7_isLetter 12 = .ok (.iload_n 0, 1) := by decide +kernel
theorem dX7_isLetter_13 : decode cX7_isLetter 13 = .ok (.bipush 65, 2) := by decide +kernel
theorem dX7_isLetter_15 : decode cX7_isLetter 15 = .ok (.if_icmp .lt 13, 3) := by decide +kernel
theorem dX7_isLetter_18 : decode cX7_isLetter 18 = .ok (.iload_n 0, 1) := by decide +kernel
theorem dX7_isLetter_19 : decode cX7_isLetter 19 = .ok (.bipush 90, 2) := by decide +kernel
theorem dX7_isLetter_21 : decode cX7_isLetter 21 = .ok (.if_icmp .gt 7, 3) := by decide +kernel
theorem dX7_isLetter_24 : decode cX7_isLetter 24 = .ok (.iconst 1, 1) := by decide +kernel
theorem dX7_isLetter_25 : decode cX7_isLetter 25 = .ok (.goto 4, 3) := by decide +kernel
theorem dX7_isLetter_28 : decode cX7_isLetter 28 = .ok (.iconst 0, 1) := by decide +kernel
theorem dX7_isLetter_29 : decode cX7_isLetter 29 = .ok (.ireturn, 1) := by decide +kernel
theorem dX7_isDigit_0 : decode cX7_isDigit 0 = .ok (.iload_n 0, 1) := by decide +kernel
theorem dX7_isDigit_1 : decode cX7_isDigit 1 = .ok (.bipush 48, 2) := by decide +kernel
theorem dX7_isDigit_3 : decode cX7_isDigit 3 = .ok (.if_icmp .lt 13, 3) := by decide +kernel
theorem dX7_isDigit_6 : decode cX7_isDigit 6 = .ok (.iload_n 0, 1) := by decide +kernel
theorem dX7_isDigit_7 : decode cX7_isDigit 7 = .ok (.bipush 57, 2) := by decide +kernel
theorem dX7_isDigit_9 : decode cX7_isDigit 9 = .ok (.if_icmp .gt 7, 3) := by decide +kernel
theorem dX7_isDigit_12 : decode cX7_isDigit 12 = .ok (.iconst 1, 1) := by decide +kernel
theorem dX7_isDigit_13 : decode cX7_isDigit 13 = .ok (.goto 4, 3) := by decide +kernel
theorem dX7_isDigit_16 : decode cX7_isDigit 16 = .ok (.iconst 0, 1) := by decide +kernel
theorem dX7_isDigit_17 : decode cX7_isDigit 17 = .ok (.ireturn, 1) := by decide +kernel
theorem dX7_byteAt_0 : decode cX7_byteAt 0 = .ok (.iload_n 2, 1) := by decide +kernel
theorem dX7_byteAt_1 : decode cX7_byteAt 1 = .ok (.aload_n 0, 1) := by decide +kernel
theorem dX7_byteAt_2 : decode cX7_byteAt 2 = .ok (.getfield 24, 3) := by decide +kernel
theorem dX7_byteAt_5 : decode cX7_byteAt 5 = .ok (.iload_n 1, 1) := by decide +kernel
theorem dX7_byteAt_6 : decode cX7_byteAt 6 = .ok (.iaload, 1) := by decide +kernel
theorem dX7_byteAt_7 : decode cX7_byteAt 7 = .ok (.if_icmp .ge 18, 3) := by decide +kernel
theorem dX7_byteAt_10 : decode cX7_byteAt 10 = .ok (.aload_n 0, 1) := by decide +kernel
theorem dX7_byteAt_11 : decode cX7_byteAt 11 = .ok (.getfield 21, 3) := by decide +kernel
theorem dX7_byteAt_14 : decode cX7_byteAt 14 = .ok (.sipush 800, 3) := by decide +kernel
theorem dX7_byteAt_17 : decode cX7_byteAt 17 = .ok (.iload_n 1, 1) := by decide +kernel
theorem dX7_byteAt_18 : decode cX7_byteAt 18 = .ok (.imul, 1) := by decide +kernel
theorem dX7_byteAt_19 : decode cX7_byteAt 19 = .ok (.iload_n 2, 1) := by decide +kernel
theorem dX7_byteAt_20 : decode cX7_byteAt 20 = .ok (.iadd, 1) := by decide +kernel
theorem dX7_byteAt_21 : decode cX7_byteAt 21 = .ok (.iaload, 1) := by decide +kernel
theorem dX7_byteAt_22 : decode cX7_byteAt 22 = .ok (.goto 4, 3) := by decide +kernel
theorem dX7_byteAt_25 : decode cX7_byteAt 25 = .ok (.iconst 0, 1) := by decide +kernel
theorem dX7_byteAt_26 : decode cX7_byteAt 26 = .ok (.ireturn, 1) := by decide +kernel
theorem dX7_look_0 : decode cX7_look 0 = .ok (.aload_n 0, 1) := by decide +kernel
theorem dX7_look_1 : decode cX7_look 1 = .ok (.aload_n 0, 1) := by decide +kernel
theorem dX7_look_2 : decode cX7_look 2 = .ok (.getfield 88, 3) := by decide +kernel
theorem dX7_look_5 : decode cX7_look 5 = .ok (.putfield 91, 3) := by decide +kernel
theorem dX7_look_8 : decode cX7_look 8 = .ok (.aload_n 0, 1) := by decide +kernel
theorem dX7_look_9 : decode cX7_look 9 = .ok (.getfield 91, 3) := by decide +kernel
theorem dX7_look_12 : decode cX7_look 12 = .ok (.aload_n 0, 1) := by decide +kernel
theorem dX7_look_13 : decode cX7_look 13 = .ok (.getfield 24, 3) := by decide +kernel
theorem dX7_look_16 : decode cX7_look 16 = .ok (.bipush 12, 2) := by decide +kernel
theorem dX7_look_18 : decode cX7_look 18 = .ok (.iaload, 1) := by decide +kernel
theorem dX7_look_19 : decode cX7_look 19 = .ok (.if_icmp .ge 46, 3) := by decide +kernel
theorem dX7_look_22 : decode cX7_look 22 = .ok (.aload_n 0, 1) := by decide +kernel
theorem dX7_look_23 : decode cX7_look 23 = .ok (.bipush 12, 2) := by decide +kernel
theorem dX7_look_25 : decode cX7_look 25 = .ok (.aload_n 0, 1) := by decide +kernel
theorem dX7_look_26 : decode cX7_look 26 = .ok (.getfield 91, 3) := by decide +kernel
theorem dX7_look_29 : decode cX7_look 29 = .ok (.invokevirtual 94, 3) := by decide +kernel
theorem dX7_look_32 : decode cX7_look 32 = .ok (.bipush 32, 2) := by decide +kernel
theorem dX7_look_34 : decode cX7_look 34 = .ok (.if_icmp .eq 18, 3) := by decide +kernel
theorem dX7_look_37 : decode cX7_look 37 = .ok (.aload_n 0, 1) := by decide +kernel
theorem dX7_look_38 : decode cX7_look 38 = .ok (.bipush 12, 2) := by decide +kernel
theorem dX7_look_40 : decode cX7_look 40 = .ok (.aload_n 0, 1) := by decide +kernel
theorem dX7_look_41 : decode cX7_look 41 = .ok (.getfield 91, 3) := by decide +kernel
theorem dX7_look_44 : decode cX7_look 44 = .ok (.invokevirtual 94, 3) := by decide +kernel
theorem dX7_look_47 : decode cX7_look 47 = .ok (.bipush 10, 2) := by decide +kernel
theorem dX7_look_49 : decode cX7_look 49 = .ok (.if_icmp .ne 16, 3) := by decide +kernel
theorem dX7_look_52 : decode cX7_look 52 = .ok (.aload_n 0, 1) := by decide +kernel
theorem dX7_look_53 : decode cX7_look 53 = .ok (.dup, 1) := by decide +kernel
theorem dX7_look_54 : decode cX7_look 54 = .ok (.getfield 91, 3) := by decide +kernel
theorem dX7_look_57 : decode cX7_look 57 = .ok (.iconst 1, 1) := by decide +kernel
theorem dX7_look_58 : decode cX7_look 58 = .ok (.iadd, 1) := by decide +kernel
theorem dX7_look_59 : decode cX7_look 59 = .ok (.putfield 91, 3) := by decide +kernel
theorem dX7_look_62 : decode cX7_look 62 = .ok (.goto (-54), 3) := by decide +kernel
theorem dX7_look_65 : decode cX7_look 65 = .ok (.aload_n 0, 1) := by decide +kernel
theorem dX7_look_66 : decode cX7_look 66 = .ok (.bipush 12, 2) := by decide +kernel
theorem dX7_look_68 : decode cX7_look 68 = .ok (.aload_n 0, 1) := by decide +kernel
theorem dX7_look_69 : decode cX7_look 69 = .ok (.getfield 91, 3) := by decide +kernel
theorem dX7_look_72 : decode cX7_look 72 = .ok (.invokevirtual 94, 3) := by decide +kernel
theorem dX7_look_75 : decode cX7_look 75 = .ok (.istore_n 1, 1) := by decide +kernel
theorem dX7_look_76 : decode cX7_look 76 = .ok (.aload_n 0, 1) := by decide +kernel
theorem dX7_look_77 : decode cX7_look 77 = .ok (.aload_n 0, 1) := by decide +kernel
theorem dX7_look_78 : decode cX7_look 78 = .ok (.getfield 91, 3) := by decide +kernel
theorem dX7_look_81 : decode cX7_look 81 = .ok (.aload_n 0, 1) := by decide +kernel
theorem dX7_look_82 : decode cX7_look 82 = .ok (.getfield 24, 3) := by decide +kernel
theorem dX7_look_85 : decode cX7_look 85 = .ok (.bipush 12, 2) := by decide +kernel
theorem dX7_look_87 : decode cX7_look 87 = .ok (.iaload, 1) := by decide +kernel
theorem dX7_look_88 : decode cX7_look 88 = .ok (.if_icmp .ge 7, 3) := by decide +kernel
theorem dX7_look_91 : decode cX7_look 91 = .ok (.iconst 1, 1) := by decide +kernel
theorem dX7_look_92 : decode cX7_look 92 = .ok (.goto 4, 3) := by decide +kernel
theorem dX7_look_95 : decode cX7_look 95 = .ok (.iconst 0, 1) := by decide +kernel
theorem dX7_look_96 : decode cX7_look 96 = .ok (.putfield 98, 3) := by decide +kernel
theorem dX7_look_99 : decode cX7_look 99 = .ok (.aload_n 0, 1) := by decide +kernel
theorem dX7_look_100 : decode cX7_look 100 = .ok (.getfield 98, 3) := by decide +kernel
theorem dX7_look_103 : decode cX7_look 103 = .ok (.ifCond .ne 11, 3) := by decide +kernel
theorem dX7_look_106 : decode cX7_look 106 = .ok (.aload_n 0, 1) := by decide +kernel
theorem dX7_look_107 : decode cX7_look 107 = .ok (.iconst (-1), 1) := by decide +kernel
theorem dX7_look_108 : decode cX7_look 108 = .ok (.putfield 101, 3) := by decide +kernel
theorem dX7_look_111 : decode cX7_look 111 = .ok (.goto 154, 3) := by decide +kernel
theorem dX7_look_114 : decode cX7_look 114 = .ok (.iload_n 1, 1) := by decide +kernel
theorem dX7_look_115 : decode cX7_look 115 = .ok (.invokestatic 104, 3) := by decide +kernel
theorem dX7_look_118 : decode cX7_look 118 = .ok (.ifCond .eq 83, 3) := by decide +kernel
theorem dX7_look_121 : decode cX7_look 121 = .ok (.aload_n 0, 1) := by decide +kernel
theorem dX7_look_122 : decode cX7_look 122 = .ok (.iconst 0, 1) := by decide +kernel
theorem dX7_look_123 : decode cX7_look 123 = .ok (.putfield 101, 3) := by decide +kernel
theorem dX7_look_126 : decode cX7_look 126 = .ok (.aload_n 0, 1) := by decide +kernel
theorem dX7_look_127 : decode cX7_look 127 = .ok (.bipush 12, 2) := by decide +kernel
theorem dX7_look_129 : decode cX7_look 129 = .ok (.aload_n 0, 1) := by decide +kernel
theorem dX7_look_130 : decode cX7_look 130 = .ok (.getfield 91, 3) := by decide +kernel
theorem dX7_look_133 : decode cX7_look 133 = .ok (.aload_n 0, 1) := by decide +kernel
theorem dX7_look_134 : decode cX7_look 134 = .ok (.getfield 98, 3) := by decide +kernel
theorem dX7_look_137 : decode cX7_look 137 = .ok (.iadd, 1) := by decide +kernel
theorem dX7_look_138 : decode cX7_look 138 = .ok (.invokevirtual 94, 3) := by decide +kernel
theorem dX7_look_141 : decode cX7_look 141 = .ok (.invokestatic 104, 3) := by decide +kernel
theorem dX7_look_144 : decode cX7_look 144 = .ok (.ifCond .ne 44, 3) := by decide +kernel
theorem dX7_look_147 : decode cX7_look 147 = .ok (.aload_n 0, 1) := by decide +kernel
theorem dX7_look_148 : decode cX7_look 148 = .ok (.bipush 12, 2) := by decide +kernel
theorem dX7_look_150 : decode cX7_look 150 = .ok (.aload_n 0, 1) := by decide +kernel
theorem dX7_look_151 : decode cX7_look 151 = .ok (.getfield 91, 3) := by decide +kernel
theorem dX7_look_154 : decode cX7_look 154 = .ok (.aload_n 0, 1) := by decide +kernel
theorem dX7_look_155 : decode cX7_look 155 = .ok (.getfield 98, 3) := by decide +kernel
theorem dX7_look_158 : decode cX7_look 158 = .ok (.iadd, 1) := by decide +kernel
theorem dX7_look_159 : decode cX7_look 159 = .ok (.invokevirtual 94, 3) := by decide +kernel
theorem dX7_look_162 : decode cX7_look 162 = .ok (.invokestatic 108, 3) := by decide +kernel
theorem dX7_look_165 : decode cX7_look 165 = .ok (.ifCond .ne 23, 3) := by decide +kernel
theorem dX7_look_168 : decode cX7_look 168 = .ok (.aload_n 0, 1) := by decide +kernel
theorem dX7_look_169 : decode cX7_look 169 = .ok (.bipush 12, 2) := by decide +kernel
theorem dX7_look_171 : decode cX7_look 171 = .ok (.aload_n 0, 1) := by decide +kernel
theorem dX7_look_172 : decode cX7_look 172 = .ok (.getfield 91, 3) := by decide +kernel
theorem dX7_look_175 : decode cX7_look 175 = .ok (.aload_n 0, 1) := by decide +kernel
theorem dX7_look_176 : decode cX7_look 176 = .ok (.getfield 98, 3) := by decide +kernel
theorem dX7_look_179 : decode cX7_look 179 = .ok (.iadd, 1) := by decide +kernel
theorem dX7_look_180 : decode cX7_look 180 = .ok (.invokevirtual 94, 3) := by decide +kernel
theorem dX7_look_183 : decode cX7_look 183 = .ok (.bipush 95, 2) := by decide +kernel
theorem dX7_look_185 : decode cX7_look 185 = .ok (.if_icmp .ne 80, 3) := by decide +kernel
theorem dX7_look_188 : decode cX7_look 188 = .ok (.aload_n 0, 1) := by decide +kernel
theorem dX7_look_189 : decode cX7_look 189 = .ok (.dup, 1) := by decide +kernel
theorem dX7_look_190 : decode cX7_look 190 = .ok (.getfield 98, 3) := by decide +kernel
theorem dX7_look_193 : decode cX7_look 193 = .ok (.iconst 1, 1) := by decide +kernel
theorem dX7_look_194 : decode cX7_look 194 = .ok (.iadd, 1) := by decide +kernel
theorem dX7_look_195 : decode cX7_look 195 = .ok (.putfield 98, 3) := by decide +kernel
theorem dX7_look_198 : decode cX7_look 198 = .ok (.goto (-72), 3) := by decide +kernel
theorem dX7_look_201 : decode cX7_look 201 = .ok (.iload_n 1, 1) := by decide +kernel
theorem dX7_look_202 : decode cX7_look 202 = .ok (.invokestatic 108, 3) := by decide +kernel
theorem dX7_look_205 : decode cX7_look 205 = .ok (.ifCond .eq 42, 3) := by decide +kernel
theorem dX7_look_208 : decode cX7_look 208 = .ok (.aload_n 0, 1) := by decide +kernel
theorem dX7_look_209 : decode cX7_look 209 = .ok (.iconst 1, 1) := by decide +kernel
theorem dX7_look_210 : decode cX7_look 210 = .ok (.putfield 101, 3) := by decide +kernel
theorem dX7_look_213 : decode cX7_look 213 = .ok (.aload_n 0, 1) := by decide +kernel
theorem dX7_look_214 : decode cX7_look 214 = .ok (.bipush 12, 2) := by decide +kernel
theorem dX7_look_216 : decode cX7_look 216 = .ok (.aload_n 0, 1) := by decide +kernel
theorem dX7_look_217 : decode cX7_look 217 = .ok (.getfield 91, 3) := by decide +kernel
theorem dX7_look_220 : decode cX7_look 220 = .ok (.aload_n 0, 1) := by decide +kernel
theorem dX7_look_221 : decode cX7_look 221 = .ok (.getfield 98, 3) := by decide +kernel
theorem dX7_look_224 : decode cX7_look 224 = .ok (.iadd, 1) := by decide +kernel
theorem dX7_look_225 : decode cX7_look 225 = .ok (.invokevirtual 94, 3) := by decide +kernel
theorem dX7_look_228 : decode cX7_look 228 = .ok (.invokestatic 108, 3) := by decide +kernel
theorem dX7_look_231 : decode cX7_look 231 = .ok (.ifCond .eq 34, 3) := by decide +kernel
theorem dX7_look_234 : decode cX7_look 234 = .ok (.aload_n 0, 1) := by decide +kernel
theorem dX7_look_235 : decode cX7_look 235 = .ok (.dup, 1) := by decide +kernel
theorem dX7_look_236 : decode cX7_look 236 = .ok (.getfield 98, 3) := by decide +kernel
theorem dX7_look_239 : decode cX7_look 239 = .ok (.iconst 1, 1) := by decide +kernel
theorem dX7_look_240 : decode cX7_look 240 = .ok (.iadd, 1) := by decide +kernel
theorem dX7_look_241 : decode cX7_look 241 = .ok (.putfield 98, 3) := by decide +kernel
theorem dX7_look_244 : decode cX7_look 244 = .ok (.goto (-31), 3) := by decide +kernel
theorem dX7_look_247 : decode cX7_look 247 = .ok (.aload_n 0, 1) := by decide +kernel
theorem dX7_look_248 : decode cX7_look 248 = .ok (.ldc 111, 2) := by decide +kernel
theorem dX7_look_250 : decode cX7_look 250 = .ok (.iload_n 1, 1) := by decide +kernel
theorem dX7_look_251 : decode cX7_look 251 = .ok (.invokevirtual 113, 3) := by decide +kernel
theorem dX7_look_254 : decode cX7_look 254 = .ok (.ifCond .lt 7, 3) := by decide +kernel
theorem dX7_look_257 : decode cX7_look 257 = .ok (.iconst 2, 1) := by decide +kernel
theorem dX7_look_258 : decode cX7_look 258 = .ok (.goto 4, 3) := by decide +kernel
theorem dX7_look_261 : decode cX7_look 261 = .ok (.iconst (-1), 1) := by decide +kernel
theorem dX7_look_262 : decode cX7_look 262 = .ok (.putfield 101, 3) := by decide +kernel
theorem dX7_look_265 : decode cX7_look 265 = .ok (.return_, 1) := by decide +kernel
theorem dX7_wrong_0 : decode cX7_wrong 0 = .ok (.aload_n 0, 1) := by decide +kernel
theorem dX7_wrong_1 : decode cX7_wrong 1 = .ok (.getfield 119, 3) := by decide +kernel
theorem dX7_wrong_4 : decode cX7_wrong 4 = .ok (.ifCond .ne 16, 3) := by decide +kernel
theorem dX7_wrong_7 : decode cX7_wrong 7 = .ok (.aload_n 0, 1) := by decide +kernel
theorem dX7_wrong_8 : decode cX7_wrong 8 = .ok (.iload_n 1, 1) := by decide +kernel
theorem dX7_wrong_9 : decode cX7_wrong 9 = .ok (.putfield 119, 3) := by decide +kernel
theorem dX7_wrong_12 : decode cX7_wrong 12 = .ok (.aload_n 0, 1) := by decide +kernel
theorem dX7_wrong_13 : decode cX7_wrong 13 = .ok (.aload_n 0, 1) := by decide +kernel
theorem dX7_wrong_14 : decode cX7_wrong 14 = .ok (.getfield 91, 3) := by decide +kernel
theorem dX7_wrong_17 : decode cX7_wrong 17 = .ok (.putfield 13, 3) := by decide +kernel
theorem dX7_wrong_20 : decode cX7_wrong 20 = .ok (.iconst 0, 1) := by decide +kernel
theorem dX7_wrong_21 : decode cX7_wrong 21 = .ok (.ireturn, 1) := by decide +kernel
theorem dX7_is_0 : decode cX7_is 0 = .ok (.aload_n 0, 1) := by decide +kernel
theorem dX7_is_1 : decode cX7_is 1 = .ok (.getfield 98, 3) := by decide +kernel
theorem dX7_is_4 : decode cX7_is 4 = .ok (.aload_n 1, 1) := by decide +kernel
theorem dX7_is_5 : decode cX7_is 5 = .ok (.invokevirtual 122, 3) := by decide +kernel
theorem dX7_is_8 : decode cX7_is 8 = .ok (.if_icmp .ne 7, 3) := by decide +kernel
theorem dX7_is_11 : decode cX7_is 11 = .ok (.iconst 1, 1) := by decide +kernel
theorem dX7_is_12 : decode cX7_is 12 = .ok (.goto 4, 3) := by decide +kernel
theorem dX7_is_15 : decode cX7_is 15 = .ok (.iconst 0, 1) := by decide +kernel
theorem dX7_is_16 : decode cX7_is 16 = .ok (.istore_n 2, 1) := by decide +kernel
theorem dX7_is_17 : decode cX7_is 17 = .ok (.iconst 0, 1) := by decide +kernel
theorem dX7_is_18 : decode cX7_is 18 = .ok (.istore_n 3, 1) := by decide +kernel
theorem dX7_is_19 : decode cX7_is 19 = .ok (.iload_n 3, 1) := by decide +kernel
theorem dX7_is_20 : decode cX7_is 20 = .ok (.aload_n 0, 1) := by decide +kernel
theorem dX7_is_21 : decode cX7_is 21 = .ok (.getfield 98, 3) := by decide +kernel
theorem dX7_is_24 : decode cX7_is 24 = .ok (.if_icmp .ge 39, 3) := by decide +kernel
theorem dX7_is_27 : decode cX7_is 27 = .ok (.iload_n 2, 1) := by decide +kernel
theorem dX7_is_28 : decode cX7_is 28 = .ok (.ifCond .eq 35, 3) := by decide +kernel
theorem dX7_is_31 : decode cX7_is 31 = .ok (.aload_n 0, 1) := by decide +kernel
theorem dX7_is_32 : decode cX7_is 32 = .ok (.bipush 12, 2) := by decide +kernel
theorem dX7_is_34 : decode cX7_is 34 = .ok (.aload_n 0, 1) := by decide +kernel
theorem dX7_is_35 : decode cX7_is 35 = .ok (.getfield 91, 3) := by decide +kernel
theorem dX7_is_38 : decode cX7_is 38 = .ok (.iload_n 3, 1) := by decide +kernel
theorem dX7_is_39 : decode cX7_is 39 = .ok (.iadd, 1) := by decide +kernel
theorem dX7_is_40 : decode cX7_is 40 = .ok (.invokevirtual 94, 3) := by decide +kernel
theorem dX7_is_43 : decode cX7_is 43 = .ok (.aload_n 1, 1) := by decide +kernel
theorem dX7_is_44 : decode cX7_is 44 = .ok (.iload_n 3, 1) := by decide +kernel
theorem dX7_is_45 : decode cX7_is 45 = .ok (.invokevirtual 126, 3) := by decide +kernel
theorem dX7_is_48 : decode cX7_is 48 = .ok (.if_icmp .ne 7, 3) := by decide +kernel
theorem dX7_is_51 : decode cX7_is 51 = .ok (.iconst 1, 1) := by decide +kernel
theorem dX7_is_52 : decode cX7_is 52 = .ok (.goto 4, 3) := by decide +kernel
theorem dX7_is_55 : decode cX7_is 55 = .ok (.iconst 0, 1) := by decide +kernel
theorem dX7_is_56 : decode cX7_is 56 = .ok (.istore_n 2, 1) := by decide +kernel
theorem dX7_is_57 : decode cX7_is 57 = .ok (.iinc 3 1, 3) := by decide +kernel
theorem dX7_is_60 : decode cX7_is 60 = .ok (.goto (-41), 3) := by decide +kernel
theorem dX7_is_63 : decode cX7_is 63 = .ok (.iload_n 2, 1) := by decide +kernel
theorem dX7_is_64 : decode cX7_is 64 = .ok (.ireturn, 1) := by decide +kernel
theorem dX7_isKeyword_0 : decode cX7_isKeyword 0 = .ok (.aload_n 0, 1) := by decide +kernel
theorem dX7_isKeyword_1 : decode cX7_isKeyword 1 = .ok (.ldc 130, 2) := by decide +kernel
theorem dX7_isKeyword_3 : decode cX7_isKeyword 3 = .ok (.invokevirtual 132, 3) := by decide +kernel
theorem dX7_isKeyword_6 : decode cX7_isKeyword 6 = .ok (.ifCond .ne 30, 3) := by decide +kernel
theorem dX7_isKeyword_9 : decode cX7_isKeyword 9 = .ok (.aload_n 0, 1) := by decide +kernel
theorem dX7_isKeyword_10 : decode cX7_isKeyword 10 = .ok (.ldc 136, 2) := by decide +kernel
theorem dX7_isKeyword_12 : decode cX7_isKeyword 12 = .ok (.invokevirtual 132, 3) := by decide +kernel
theorem dX7_isKeyword_15 : decode cX7_isKeyword 15 = .ok (.ifCond .ne 21, 3) := by decide +kernel
theorem dX7_isKeyword_18 : decode cX7_isKeyword 18 = .ok (.aload_n 0, 1) := by decide +kernel
theorem dX7_isKeyword_19 : decode cX7_isKeyword 19 = .ok (.ldc 138, 2) := by decide +kernel
theorem dX7_isKeyword_21 : decode cX7_isKeyword 21 = .ok (.invokevirtual 132, 3) := by decide +kernel
theorem dX7_isKeyword_24 : decode cX7_isKeyword 24 = .ok (.ifCond .ne 12, 3) := by decide +kernel
theorem dX7_isKeyword_27 : decode cX7_isKeyword 27 = .ok (.aload_n 0, 1) := by decide +kernel
theorem dX7_isKeyword_28 : decode cX7_isKeyword 28 = .ok (.ldc 140, 2) := by decide +kernel
theorem dX7_isKeyword_30 : decode cX7_isKeyword 30 = .ok (.invokevirtual 132, 3) := by decide +kernel
theorem dX7_isKeyword_33 : decode cX7_isKeyword 33 = .ok (.ifCond .eq 7, 3) := by decide +kernel
theorem dX7_isKeyword_36 : decode cX7_isKeyword 36 = .ok (.iconst 1, 1) := by decide +kernel
theorem dX7_isKeyword_37 : decode cX7_isKeyword 37 = .ok (.goto 4, 3) := by decide +kernel
theorem dX7_isKeyword_40 : decode cX7_isKeyword 40 = .ok (.iconst 0, 1) := by decide +kernel
theorem dX7_isKeyword_41 : decode cX7_isKeyword 41 = .ok (.ireturn, 1) := by decide +kernel
theorem dX7_isName_0 : decode cX7_isName 0 = .ok (.aload_n 0, 1) := by decide +kernel
theorem dX7_isName_1 : decode cX7_isName 1 = .ok (.getfield 98, 3) := by decide +kernel
theorem dX7_isName_4 : decode cX7_isName 4 = .ok (.ifCond .le 21, 3) := by decide +kernel
theorem dX7_isName_7 : decode cX7_isName 7 = .ok (.aload_n 0, 1) := by decide +kernel
theorem dX7_isName_8 : decode cX7_isName 8 = .ok (.getfield 101, 3) := by decide +kernel
theorem dX7_isName_11 : decode cX7_isName 11 = .ok (.ifCond .ne 14, 3) := by decide +kernel
theorem dX7_isName_14 : decode cX7_isName 14 = .ok (.aload_n 0, 1) := by decide +kernel
theorem dX7_isName_15 : decode cX7_isName 15 = .ok (.invokevirtual 142, 3) := by decide +kernel
theorem dX7_isName_18 : decode cX7_isName 18 = .ok (.ifCond .ne 7, 3) := by decide +kernel
theorem dX7_isName_21 : decode cX7_isName 21 = .ok (.iconst 1, 1) := by decide +kernel
theorem dX7_isName_22 : decode cX7_isName 22 = .ok (.goto 4, 3) := by decide +kernel
theorem dX7_isName_25 : decode cX7_isName 25 = .ok (.iconst 0, 1) := by decide +kernel
theorem dX7_isName_26 : decode cX7_isName 26 = .ok (.ireturn, 1) := by decide +kernel
theorem dX7_comes_0 : decode cX7_comes 0 = .ok (.aload_n 0, 1) := by decide +kernel
theorem dX7_comes_1 : decode cX7_comes 1 = .ok (.getfield 30, 3) := by decide +kernel
theorem dX7_comes_4 : decode cX7_comes 4 = .ok (.bipush 12, 2) := by decide +kernel
theorem dX7_comes_6 : decode cX7_comes 6 = .ok (.iaload, 1) := by decide +kernel
theorem dX7_comes_7 : decode cX7_comes 7 = .ok (.sipush 200, 3) := by decide +kernel
theorem dX7_comes_10 : decode cX7_comes 10 = .ok (.if_icmp .eq 36, 3) := by decide +kernel
theorem dX7_comes_13 : decode cX7_comes 13 = .ok (.aload_n 0, 1) := by decide +kernel
theorem dX7_comes_14 : decode cX7_comes 14 = .ok (.getfield 101, 3) := by decide +kernel
theorem dX7_comes_17 : decode cX7_comes 17 = .ok (.ifCond .ne 12, 3) := by decide +kernel
theorem dX7_comes_20 : decode cX7_comes 20 = .ok (.aload_n 0, 1) := by decide +kernel
theorem dX7_comes_21 : decode cX7_comes 21 = .ok (.getfield 98, 3) := by decide +kernel
theorem dX7_comes_24 : decode cX7_comes 24 = .ok (.bipush 16, 2) := by decide +kernel
theorem dX7_comes_26 : decode cX7_comes 26 = .ok (.if_icmp .gt 20, 3) := by decide +kernel
theorem dX7_comes_29 : decode cX7_comes 29 = .ok (.aload_n 0, 1) := by decide +kernel
theorem dX7_comes_30 : decode cX7_comes 30 = .ok (.getfield 101, 3) := by decide +kernel
theorem dX7_comes_33 : decode cX7_comes 33 = .ok (.iconst 1, 1) := by decide +kernel
theorem dX7_comes_34 : decode cX7_comes 34 = .ok (.if_icmp .ne 18, 3) := by decide +kernel
theorem dX7_comes_37 : decode cX7_comes 37 = .ok (.aload_n 0, 1) := by decide +kernel
theorem dX7_comes_38 : decode cX7_comes 38 = .ok (.getfield 98, 3) := by decide +kernel
theorem dX7_comes_41 : decode cX7_comes 41 = .ok (.bipush 6, 2) := by decide +kernel
theorem dX7_comes_43 : decode cX7_comes 43 = .ok (.if_icmp .le 9, 3) := by decide +kernel
theorem dX7_comes_46 : decode cX7_comes 46 = .ok (.aload_n 0, 1) := by decide +kernel
theorem dX7_comes_47 : decode cX7_comes 47 = .ok (.iconst 2, 1) := by decide +kernel
theorem dX7_comes_48 : decode cX7_comes 48 = .ok (.invokevirtual 146, 3) := by decide +kernel
theorem dX7_comes_51 : decode cX7_comes 51 = .ok (.ireturn, 1) := by decide +kernel
theorem dX7_comes_52 : decode cX7_comes 52 = .ok (.aload_n 0, 1) := by decide +kernel
theorem dX7_comes_53 : decode cX7_comes 53 = .ok (.ldc 149, 2) := by decide +kernel
theorem dX7_comes_55 : decode cX7_comes 55 = .ok (.invokevirtual 132, 3) := by decide +kernel
theorem dX7_comes_58 : decode cX7_comes 58 = .ok (.ifCond .ne 12, 3) := by decide +kernel
theorem dX7_comes_61 : decode cX7_comes 61 = .ok (.aload_n 0, 1) := by decide +kernel
theorem dX7_comes_62 : decode cX7_comes 62 = .ok (.ldc 151, 2) := by decide +kernel
theorem dX7_comes_64 : decode cX7_comes 64 = .ok (.invokevirtual 132, 3) := by decide +kernel
theorem dX7_comes_67 : decode cX7_comes 67 = .ok (.ifCond .eq 7, 3) := by decide +kernel
theorem dX7_comes_70 : decode cX7_comes 70 = .ok (.iconst 1, 1) := by decide +kernel
theorem dX7_comes_71 : decode cX7_comes 71 = .ok (.goto 4, 3) := by decide +kernel
theorem dX7_comes_74 : decode cX7_comes 74 = .ok (.iconst 0, 1) := by decide +kernel
theorem dX7_comes_75 : decode cX7_comes 75 = .ok (.istore_n 2, 1) := by decide +kernel
theorem dX7_comes_76 : decode cX7_comes 76 = .ok (.iload_n 2, 1) := by decide +kernel
theorem dX7_comes_77 : decode cX7_comes 77 = .ok (.ifCond .eq 18, 3) := by decide +kernel
theorem dX7_comes_80 : decode cX7_comes 80 = .ok (.aload_n 0, 1) := by decide +kernel
theorem dX7_comes_81 : decode cX7_comes 81 = .ok (.getfield 153, 3) := by decide +kernel
theorem dX7_comes_84 : decode cX7_comes 84 = .ok (.bipush 6, 2) := by decide +kernel
theorem dX7_comes_86 : decode cX7_comes 86 = .ok (.if_icmp .ne 9, 3) := by decide +kernel
theorem dX7_comes_89 : decode cX7_comes 89 = .ok (.aload_n 0, 1) := by decide +kernel
theorem dX7_comes_90 : decode cX7_comes 90 = .ok (.iconst 2, 1) := by decide +kernel
theorem dX7_comes_91 : decode cX7_comes 91 = .ok (.invokevirtual 146, 3) := by decide +kernel
theorem dX7_comes_94 : decode cX7_comes 94 = .ok (.ireturn, 1) := by decide +kernel
theorem dX7_comes_95 : decode cX7_comes 95 = .ok (.aload_n 0, 1) := by decide +kernel
theorem dX7_comes_96 : decode cX7_comes 96 = .ok (.ldc 156, 2) := by decide +kernel
theorem dX7_comes_98 : decode cX7_comes 98 = .ok (.invokevirtual 132, 3) := by decide +kernel
theorem dX7_comes_101 : decode cX7_comes 101 = .ok (.ifCond .eq 13, 3) := by decide +kernel
theorem dX7_comes_104 : decode cX7_comes 104 = .ok (.aload_n 0, 1) := by decide +kernel
theorem dX7_comes_105 : decode cX7_comes 105 = .ok (.dup, 1) := by decide +kernel
theorem dX7_comes_106 : decode cX7_comes 106 = .ok (.getfield 158, 3) := by decide +kernel
theorem dX7_comes_109 : decode cX7_comes 109 = .ok (.iconst 1, 1) := by decide +kernel
theorem dX7_comes_110 : decode cX7_comes 110 = .ok (.isub, 1) := by decide +kernel
theorem dX7_comes_111 : decode cX7_comes 111 = .ok (.putfield 158, 3) := by decide +kernel
theorem dX7_comes_114 : decode cX7_comes 114 = .ok (.aload_n 0, 1) := by decide +kernel
theorem dX7_comes_115 : decode cX7_comes 115 = .ok (.ldc 156, 2) := by decide +kernel
theorem dX7_comes_117 : decode cX7_comes 117 = .ok (.invokevirtual 132, 3) := by decide +kernel
theorem dX7_comes_120 : decode cX7_comes 120 = .ok (.ifCond .ne 12, 3) := by decide +kernel
theorem dX7_comes_123 : decode cX7_comes 123 = .ok (.aload_n 0, 1) := by decide +kernel
theorem dX7_comes_124 : decode cX7_comes 124 = .ok (.ldc 161, 2) := by decide +kernel
theorem dX7_comes_126 : decode cX7_comes 126 = .ok (.invokevirtual 132, 3) := by decide +kernel
theorem dX7_comes_129 : decode cX7_comes 129 = .ok (.ifCond .eq 13, 3) := by decide +kernel
theorem dX7_comes_132 : decode cX7_comes 132 = .ok (.aload_n 0, 1) := by decide +kernel
theorem dX7_comes_133 : decode cX7_comes 133 = .ok (.dup, 1) := by decide +kernel
theorem dX7_comes_134 : decode cX7_comes 134 = .ok (.getfield 153, 3) := by decide +kernel
theorem dX7_comes_137 : decode cX7_comes 137 = .ok (.iconst 1, 1) := by decide +kernel
theorem dX7_comes_138 : decode cX7_comes 138 = .ok (.isub, 1) := by decide +kernel
theorem dX7_comes_139 : decode cX7_comes 139 = .ok (.putfield 153, 3) := by decide +kernel
theorem dX7_comes_142 : decode cX7_comes 142 = .ok (.sipush 2412, 3) := by decide +kernel
theorem dX7_comes_145 : decode cX7_comes 145 = .ok (.aload_n 0, 1) := by decide +kernel
theorem dX7_comes_146 : decode cX7_comes 146 = .ok (.getfield 30, 3) := by decide +kernel
theorem dX7_comes_149 : decode cX7_comes 149 = .ok (.bipush 12, 2) := by decide +kernel
theorem dX7_comes_151 : decode cX7_comes 151 = .ok (.iaload, 1) := by decide +kernel
theorem dX7_comes_152 : decode cX7_comes 152 = .ok (.iadd, 1) := by decide +kernel
theorem dX7_comes_153 : decode cX7_comes 153 = .ok (.istore_n 3, 1) := by decide +kernel
theorem dX7_comes_154 : decode cX7_comes 154 = .ok (.aload_n 0, 1) := by decide +kernel
theorem dX7_comes_155 : decode cX7_comes 155 = .ok (.getfield 36, 3) := by decide +kernel
theorem dX7_comes_158 : decode cX7_comes 158 = .ok (.iload_n 3, 1) := by decide +kernel
theorem dX7_comes_159 : decode cX7_comes 159 = .ok (.aload_n 0, 1) := by decide +kernel
theorem dX7_comes_160 : decode cX7_comes 160 = .ok (.getfield 91, 3) := by decide +kernel
theorem dX7_comes_163 : decode cX7_comes 163 = .ok (.iastore, 1) := by decide +kernel
theorem dX7_comes_164 : decode cX7_comes 164 = .ok (.aload_n 0, 1) := by decide +kernel
theorem dX7_comes_165 : decode cX7_comes 165 = .ok (.getfield 39, 3) := by decide +kernel
theorem dX7_comes_168 : decode cX7_comes 168 = .ok (.iload_n 3, 1) := by decide +kernel
theorem dX7_comes_169 : decode cX7_comes 169 = .ok (.aload_n 0, 1) := by decide +kernel
theorem dX7_comes_170 : decode cX7_comes 170 = .ok (.getfield 98, 3) := by decide +kernel
theorem dX7_comes_173 : decode cX7_comes 173 = .ok (.iastore, 1) := by decide +kernel
theorem dX7_comes_174 : decode cX7_comes 174 = .ok (.aload_n 0, 1) := by decide +kernel
theorem dX7_comes_175 : decode cX7_comes 175 = .ok (.getfield 42, 3) := by decide +kernel
theorem dX7_comes_178 : decode cX7_comes 178 = .ok (.iload_n 3, 1) := by decide +kernel
theorem dX7_comes_179 : decode cX7_comes 179 = .ok (.aload_n 0, 1) := by decide +kernel
theorem dX7_comes_180 : decode cX7_comes 180 = .ok (.getfield 101, 3) := by decide +kernel
theorem dX7_comes_183 : decode cX7_comes 183 = .ok (.iastore, 1) := by decide +kernel
theorem dX7_comes_184 : decode cX7_comes 184 = .ok (.aload_n 0, 1) := by decide +kernel
theorem dX7_comes_185 : decode cX7_comes 185 = .ok (.getfield 45, 3) := by decide +kernel
theorem dX7_comes_188 : decode cX7_comes 188 = .ok (.iload_n 3, 1) := by decide +kernel
theorem dX7_comes_189 : decode cX7_comes 189 = .ok (.aload_n 0, 1) := by decide +kernel
theorem dX7_comes_190 : decode cX7_comes 190 = .ok (.getfield 158, 3) := by decide +kernel
theorem dX7_comes_193 : decode cX7_comes 193 = .ok (.iastore, 1) := by decide +kernel
theorem dX7_comes_194 : decode cX7_comes 194 = .ok (.aload_n 0, 1) := by decide +kernel
theorem dX7_comes_195 : decode cX7_comes 195 = .ok (.getfield 48, 3) := by decide +kernel
theorem dX7_comes_198 : decode cX7_comes 198 = .ok (.iload_n 3, 1) := by decide +kernel
theorem dX7_comes_199 : decode cX7_comes 199 = .ok (.iload_n 1, 1) := by decide +kernel
theorem dX7_comes_200 : decode cX7_comes 200 = .ok (.iastore, 1) := by decide +kernel
theorem dX7_comes_201 : decode cX7_comes 201 = .ok (.aload_n 0, 1) := by decide +kernel
theorem dX7_comes_202 : decode cX7_comes 202 = .ok (.getfield 30, 3) := by decide +kernel
theorem dX7_comes_205 : decode cX7_comes 205 = .ok (.bipush 12, 2) := by decide +kernel
theorem dX7_comes_207 : decode cX7_comes 207 = .ok (.dup2, 1) := by decide +kernel
theorem dX7_comes_208 : decode cX7_comes 208 = .ok (.iaload, 1) := by decide +kernel
theorem dX7_comes_209 : decode cX7_comes 209 = .ok (.iconst 1, 1) := by decide +kernel
theorem dX7_comes_210 : decode cX7_comes 210 = .ok (.iadd, 1) := by decide +kernel
theorem dX7_comes_211 : decode cX7_comes 211 = .ok (.iastore, 1) := by decide +kernel
theorem dX7_comes_212 : decode cX7_comes 212 = .ok (.aload_n 0, 1) := by decide +kernel
theorem dX7_comes_213 : decode cX7_comes 213 = .ok (.ldc 149, 2) := by decide +kernel
theorem dX7_comes_215 : decode cX7_comes 215 = .ok (.invokevirtual 132, 3) := by decide +kernel
theorem dX7_comes_218 : decode cX7_comes 218 = .ok (.ifCond .eq 13, 3) := by decide +kernel
theorem dX7_comes_221 : decode cX7_comes 221 = .ok (.aload_n 0, 1) := by decide +kernel
theorem dX7_comes_222 : decode cX7_comes 222 = .ok (.dup, 1) := by decide +kernel
theorem dX7_comes_223 : decode cX7_comes 223 = .ok (.getfield 158, 3) := by decide +kernel
theorem dX7_comes_226 : decode cX7_comes 226 = .ok (.iconst 1, 1) := by decide +kernel
theorem dX7_comes_227 : decode cX7_comes 227 = .ok (.iadd, 1) := by decide +kernel
theorem dX7_comes_228 : decode cX7_comes 228 = .ok (.putfield 158, 3) := by decide +kernel
theorem dX7_comes_231 : decode cX7_comes 231 = .ok (.iload_n 2, 1) := by decide +kernel
theorem dX7_comes_232 : decode cX7_comes 232 = .ok (.ifCond .eq 13, 3) := by decide +kernel
theorem dX7_comes_235 : decode cX7_comes 235 = .ok (.aload_n 0, 1) := by decide +kernel
theorem dX7_comes_236 : decode cX7_comes 236 = .ok (.dup, 1) := by decide +kernel
theorem dX7_comes_237 : decode cX7_comes 237 = .ok (.getfield 153, 3) := by decide +kernel
theorem dX7_comes_240 : decode cX7_comes 240 = .ok (.iconst 1, 1) := by decide +kernel
theorem dX7_comes_241 : decode cX7_comes 241 = .ok (.iadd, 1) := by decide +kernel
theorem dX7_comes_242 : decode cX7_comes 242 = .ok (.putfield 153, 3) := by decide +kernel
theorem dX7_comes_245 : decode cX7_comes 245 = .ok (.aload_n 0, 1) := by decide +kernel
theorem dX7_comes_246 : decode cX7_comes 246 = .ok (.aload_n 0, 1) := by decide +kernel
theorem dX7_comes_247 : decode cX7_comes 247 = .ok (.getfield 91, 3) := by decide +kernel
theorem dX7_comes_250 : decode cX7_comes 250 = .ok (.aload_n 0, 1) := by decide +kernel
theorem dX7_comes_251 : decode cX7_comes 251 = .ok (.getfield 98, 3) := by decide +kernel
theorem dX7_comes_254 : decode cX7_comes 254 = .ok (.iadd, 1) := by decide +kernel
theorem dX7_comes_255 : decode cX7_comes 255 = .ok (.putfield 88, 3) := by decide +kernel
theorem dX7_comes_258 : decode cX7_comes 258 = .ok (.aload_n 0, 1) := by decide +kernel
theorem dX7_comes_259 : decode cX7_comes 259 = .ok (.invokevirtual 163, 3) := by decide +kernel
theorem dX7_comes_262 : decode cX7_comes 262 = .ok (.iconst 1, 1) := by decide +kernel
theorem dX7_comes_263 : decode cX7_comes 263 = .ok (.ireturn, 1) := by decide +kernel
theorem dX7_need_0 : decode cX7_need 0 = .ok (.aload_n 0, 1) := by decide +kernel
theorem dX7_need_1 : decode cX7_need 1 = .ok (.aload_n 1, 1) := by decide +kernel
theorem dX7_need_2 : decode cX7_need 2 = .ok (.invokevirtual 132, 3) := by decide +kernel
theorem dX7_need_5 : decode cX7_need 5 = .ok (.ifCond .eq 11, 3) := by decide +kernel
theorem dX7_need_8 : decode cX7_need 8 = .ok (.aload_n 0, 1) := by decide +kernel
theorem dX7_need_9 : decode cX7_need 9 = .ok (.iload_n 2, 1) := by decide +kernel
theorem dX7_need_10 : decode cX7_need 10 = .ok (.invokevirtual 166, 3) := by decide +kernel
theorem dX7_need_13 : decode cX7_need 13 = .ok (.goto 8, 3) := by decide +kernel
theorem dX7_need_16 : decode cX7_need 16 = .ok (.aload_n 0, 1) := by decide +kernel
theorem dX7_need_17 : decode cX7_need 17 = .ok (.iconst 1, 1) := by decide +kernel
theorem dX7_need_18 : decode cX7_need 18 = .ok (.invokevirtual 146, 3) := by decide +kernel
theorem dX7_need_21 : decode cX7_need 21 = .ok (.ireturn, 1) := by decide +kernel
theorem dX7_name_0 : decode cX7_name 0 = .ok (.aload_n 0, 1) := by decide +kernel
theorem dX7_name_1 : decode cX7_name 1 = .ok (.invokevirtual 169, 3) := by decide +kernel
theorem dX7_name_4 : decode cX7_name 4 = .ok (.ifCond .eq 11, 3) := by decide +kernel
theorem dX7_name_7 : decode cX7_name 7 = .ok (.aload_n 0, 1) := by decide +kernel
theorem dX7_name_8 : decode cX7_name 8 = .ok (.iload_n 1, 1) := by decide +kernel
theorem dX7_name_9 : decode cX7_name 9 = .ok (.invokevirtual 166, 3) := by decide +kernel
theorem dX7_name_12 : decode cX7_name 12 = .ok (.goto 8, 3) := by decide +kernel
theorem dX7_name_15 : decode cX7_name 15 = .ok (.aload_n 0, 1) := by decide +kernel
theorem dX7_name_16 : decode cX7_name 16 = .ok (.iconst 1, 1) := by decide +kernel
theorem dX7_name_17 : decode cX7_name 17 = .ok (.invokevirtual 146, 3) := by decide +kernel
theorem dX7_name_20 : decode cX7_name 20 = .ok (.ireturn, 1) := by decide +kernel
theorem dX7_part_0 : decode cX7_part 0 = .ok (.aload_n 0, 1) := by decide +kernel
theorem dX7_part_1 : decode cX7_part 1 = .ok (.invokevirtual 169, 3) := by decide +kernel
theorem dX7_part_4 : decode cX7_part 4 = .ok (.ifCond .ne 18, 3) := by decide +kernel
theorem dX7_part_7 : decode cX7_part 7 = .ok (.aload_n 0, 1) := by decide +kernel
theorem dX7_part_8 : decode cX7_part 8 = .ok (.getfield 98, 3) := by decide +kernel
theorem dX7_part_11 : decode cX7_part 11 = .ok (.ifCond .le 17, 3) := by decide +kernel
theorem dX7_part_14 : decode cX7_part 14 = .ok (.aload_n 0, 1) := by decide +kernel
theorem dX7_part_15 : decode cX7_part 15 = .ok (.getfield 101, 3) := by decide +kernel
theorem dX7_part_18 : decode cX7_part 18 = .ok (.iconst 1, 1) := by decide +kernel
theorem dX7_part_19 : decode cX7_part 19 = .ok (.if_icmp .ne 9, 3) := by decide +kernel
theorem dX7_part_22 : decode cX7_part 22 = .ok (.aload_n 0, 1) := by decide +kernel
theorem dX7_part_23 : decode cX7_part 23 = .ok (.iload_n 1, 1) := by decide +kernel
theorem dX7_part_24 : decode cX7_part 24 = .ok (.invokevirtual 166, 3) := by decide +kernel
theorem dX7_part_27 : decode cX7_part 27 = .ok (.ireturn, 1) := by decide +kernel
theorem dX7_part_28 : decode cX7_part 28 = .ok (.aload_n 0, 1) := by decide +kernel
theorem dX7_part_29 : decode cX7_part 29 = .ok (.ldc 151, 2) := by decide +kernel
theorem dX7_part_31 : decode cX7_part 31 = .ok (.iload_n 1, 1) := by decide +kernel
theorem dX7_part_32 : decode cX7_part 32 = .ok (.invokevirtual 172, 3) := by decide +kernel
theorem dX7_part_35 : decode cX7_part 35 = .ok (.ifCond .eq 25, 3) := by decide +kernel
theorem dX7_part_38 : decode cX7_part 38 = .ok (.aload_n 0, 1) := by decide +kernel
theorem dX7_part_39 : decode cX7_part 39 = .ok (.iload_n 1, 1) := by decide +kernel
theorem dX7_part_40 : decode cX7_part 40 = .ok (.invokevirtual 176, 3) := by decide +kernel
theorem dX7_part_43 : decode cX7_part 43 = .ok (.ifCond .eq 17, 3) := by decide +kernel
theorem dX7_part_46 : decode cX7_part 46 = .ok (.aload_n 0, 1) := by decide +kernel
theorem dX7_part_47 : decode cX7_part 47 = .ok (.ldc 161, 2) := by decide +kernel
theorem dX7_part_49 : decode cX7_part 49 = .ok (.iload_n 1, 1) := by decide +kernel
theorem dX7_part_50 : decode cX7_part 50 = .ok (.invokevirtual 172, 3) := by decide +kernel
theorem dX7_part_53 : decode cX7_part 53 = .ok (.ifCond .eq 7, 3) := by decide +kernel
theorem dX7_part_56 : decode cX7_part 56 = .ok (.iconst 1, 1) := by decide +kernel
theorem dX7_part_57 : decode cX7_part 57 = .ok (.goto 4, 3) := by decide +kernel
theorem dX7_part_60 : decode cX7_part 60 = .ok (.iconst 0, 1) := by decide +kernel
theorem dX7_part_61 : decode cX7_part 61 = .ok (.ireturn, 1) := by decide +kernel
theorem dX7_expr_0 : decode cX7_expr 0 = .ok (.aload_n 0, 1) := by decide +kernel
theorem dX7_expr_1 : decode cX7_expr 1 = .ok (.iload_n 1, 1) := by decide +kernel
theorem dX7_expr_2 : decode cX7_expr 2 = .ok (.invokevirtual 179, 3) := by decide +kernel
theorem dX7_expr_5 : decode cX7_expr 5 = .ok (.ifCond .ne 5, 3) := by decide +kernel
theorem dX7_expr_8 : decode cX7_expr 8 = .ok (.iconst 0, 1) := by decide +kernel
theorem dX7_expr_9 : decode cX7_expr 9 = .ok (.ireturn, 1) := by decide +kernel
theorem dX7_expr_10 : decode cX7_expr 10 = .ok (.aload_n 0, 1) := by decide +kernel
theorem dX7_expr_11 : decode cX7_expr 11 = .ok (.ldc 182, 2) := by decide +kernel
theorem dX7_expr_13 : decode cX7_expr 13 = .ok (.invokevirtual 132, 3) := by decide +kernel
theorem dX7_expr_16 : decode cX7_expr 16 = .ok (.ifCond .ne 21, 3) := by decide +kernel
theorem dX7_expr_19 : decode cX7_expr 19 = .ok (.aload_n 0, 1) := by decide +kernel
theorem dX7_expr_20 : decode cX7_expr 20 = .ok (.ldc 184, 2) := by decide +kernel
theorem dX7_expr_22 : decode cX7_expr 22 = .ok (.invokevirtual 132, 3) := by decide +kernel
theorem dX7_expr_25 : decode cX7_expr 25 = .ok (.ifCond .ne 12, 3) := by decide +kernel
theorem dX7_expr_28 : decode cX7_expr 28 = .ok (.aload_n 0, 1) := by decide +kernel
theorem dX7_expr_29 : decode cX7_expr 29 = .ok (.ldc 186, 2) := by decide +kernel
theorem dX7_expr_31 : decode cX7_expr 31 = .ok (.invokevirtual 132, 3) := by decide +kernel
theorem dX7_expr_34 : decode cX7_expr 34 = .ok (.ifCond .eq 21, 3) := by decide +kernel
theorem dX7_expr_37 : decode cX7_expr 37 = .ok (.aload_n 0, 1) := by decide +kernel
theorem dX7_expr_38 : decode cX7_expr 38 = .ok (.iload_n 1, 1) := by decide +kernel
theorem dX7_expr_39 : decode cX7_expr 39 = .ok (.invokevirtual 166, 3) := by decide +kernel
theorem dX7_expr_42 : decode cX7_expr 42 = .ok (.ifCond .eq 11, 3) := by decide +kernel
theorem dX7_expr_45 : decode cX7_expr 45 = .ok (.aload_n 0, 1) := by decide +kernel
theorem dX7_expr_46 : decode cX7_expr 46 = .ok (.iload_n 1, 1) := by decide +kernel
theorem dX7_expr_47 : decode cX7_expr 47 = .ok (.invokevirtual 179, 3) := by decide +kernel
theorem dX7_expr_50 : decode cX7_expr 50 = .ok (.ifCond .ne (-40), 3) := by decide +kernel
theorem dX7_expr_53 : decode cX7_expr 53 = .ok (.iconst 0, 1) := by decide +kernel
theorem dX7_expr_54 : decode cX7_expr 54 = .ok (.ireturn, 1) := by decide +kernel
theorem dX7_expr_55 : decode cX7_expr 55 = .ok (.iconst 1, 1) := by decide +kernel
theorem dX7_expr_56 : decode cX7_expr 56 = .ok (.ireturn, 1) := by decide +kernel
theorem dX7_block_0 : decode cX7_block 0 = .ok (.aload_n 0, 1) := by decide +kernel
theorem dX7_block_1 : decode cX7_block 1 = .ok (.ldc 149, 2) := by decide +kernel
theorem dX7_block_3 : decode cX7_block 3 = .ok (.iload_n 1, 1) := by decide +kernel
theorem dX7_block_4 : decode cX7_block 4 = .ok (.invokevirtual 172, 3) := by decide +kernel
theorem dX7_block_7 : decode cX7_block 7 = .ok (.ifCond .ne 5, 3) := by decide +kernel
theorem dX7_block_10 : decode cX7_block 10 = .ok (.iconst 0, 1) := by decide +kernel
theorem dX7_block_11 : decode cX7_block 11 = .ok (.ireturn, 1) := by decide +kernel
theorem dX7_block_12 : decode cX7_block 12 = .ok (.aload_n 0, 1) := by decide +kernel
theorem dX7_block_13 : decode cX7_block 13 = .ok (.ldc 156, 2) := by decide +kernel
theorem dX7_block_15 : decode cX7_block 15 = .ok (.invokevirtual 132, 3) := by decide +kernel
theorem dX7_block_18 : decode cX7_block 18 = .ok (.ifCond .ne 12, 3) := by decide +kernel
theorem dX7_block_21 : decode cX7_block 21 = .ok (.aload_n 0, 1) := by decide +kernel
theorem dX7_block_22 : decode cX7_block 22 = .ok (.invokevirtual 188, 3) := by decide +kernel
theorem dX7_block_25 : decode cX7_block 25 = .ok (.ifCond .ne (-13), 3) := by decide +kernel
theorem dX7_block_28 : decode cX7_block 28 = .ok (.iconst 0, 1) := by decide +kernel
theorem dX7_block_29 : decode cX7_block 29 = .ok (.ireturn, 1) := by decide +kernel
theorem dX7_block_30 : decode cX7_block 30 = .ok (.aload_n 0, 1) := by decide +kernel
theorem dX7_block_31 : decode cX7_block 31 = .ok (.iload_n 1, 1) := by decide +kernel
theorem dX7_block_32 : decode cX7_block 32 = .ok (.invokevirtual 166, 3) := by decide +kernel
theorem dX7_block_35 : decode cX7_block 35 = .ok (.ireturn, 1) := by decide +kernel
theorem dX7_call_0 : decode cX7_call 0 = .ok (.aload_n 0, 1) := by decide +kernel
theorem dX7_call_1 : decode cX7_call 1 = .ok (.iconst 1, 1) := by decide +kernel
theorem dX7_call_2 : decode cX7_call 2 = .ok (.invokevirtual 166, 3) := by decide +kernel
theorem dX7_call_5 : decode cX7_call 5 = .ok (.ifCond .eq 21, 3) := by decide +kernel
theorem dX7_call_8 : decode cX7_call 8 = .ok (.aload_n 0, 1) := by decide +kernel
theorem dX7_call_9 : decode cX7_call 9 = .ok (.iconst 1, 1) := by decide +kernel
theorem dX7_call_10 : decode cX7_call 10 = .ok (.invokevirtual 191, 3) := by decide +kernel
theorem dX7_call_13 : decode cX7_call 13 = .ok (.ifCond .eq 13, 3) := by decide +kernel
theorem dX7_call_16 : decode cX7_call 16 = .ok (.aload_n 0, 1) := by decide +kernel
theorem dX7_call_17 : decode cX7_call 17 = .ok (.ldc 151, 2) := by decide +kernel
theorem dX7_call_19 : decode cX7_call 19 = .ok (.iconst 1, 1) := by decide +kernel
theorem dX7_call_20 : decode cX7_call 20 = .ok (.invokevirtual 172, 3) := by decide +kernel
theorem dX7_call_23 : decode cX7_call 23 = .ok (.ifCond .ne 5, 3) := by decide +kernel
theorem dX7_call_26 : decode cX7_call 26 = .ok (.iconst 0, 1) := by decide +kernel
theorem dX7_call_27 : decode cX7_call 27 = .ok (.ireturn, 1) := by decide +kernel
theorem dX7_call_28 : decode cX7_call 28 = .ok (.aload_n 0, 1) := by decide +kernel
theorem dX7_call_29 : decode cX7_call 29 = .ok (.ldc 161, 2) := by decide +kernel
theorem dX7_call_31 : decode cX7_call 31 = .ok (.invokevirtual 132, 3) := by decide +kernel
theorem dX7_call_34 : decode cX7_call 34 = .ok (.ifCond .ne 40, 3) := by decide +kernel
theorem dX7_call_37 : decode cX7_call 37 = .ok (.aload_n 0, 1) := by decide +kernel
theorem dX7_call_38 : decode cX7_call 38 = .ok (.iconst 1, 1) := by decide +kernel
theorem dX7_call_39 : decode cX7_call 39 = .ok (.invokevirtual 176, 3) := by decide +kernel
theorem dX7_call_42 : decode cX7_call 42 = .ok (.ifCond .ne 5, 3) := by decide +kernel
theorem dX7_call_45 : decode cX7_call 45 = .ok (.iconst 0, 1) := by decide +kernel
theorem dX7_call_46 : decode cX7_call 46 = .ok (.ireturn, 1) := by decide +kernel
theorem dX7_call_47 : decode cX7_call 47 = .ok (.aload_n 0, 1) := by decide +kernel
theorem dX7_call_48 : decode cX7_call 48 = .ok (.ldc 194, 2) := by decide +kernel
theorem dX7_call_50 : decode cX7_call 50 = .ok (.invokevirtual 132, 3) := by decide +kernel
theorem dX7_call_53 : decode cX7_call 53 = .ok (.ifCond .eq 21, 3) := by decide +kernel
theorem dX7_call_56 : decode cX7_call 56 = .ok (.aload_n 0, 1) := by decide +kernel
theorem dX7_call_57 : decode cX7_call 57 = .ok (.iconst 1, 1) := by decide +kernel
theorem dX7_call_58 : decode cX7_call 58 = .ok (.invokevirtual 166, 3) := by decide +kernel
theorem dX7_call_61 : decode cX7_call 61 = .ok (.ifCond .eq 11, 3) := by decide +kernel
theorem dX7_call_64 : decode cX7_call 64 = .ok (.aload_n 0, 1) := by decide +kernel
theorem dX7_call_65 : decode cX7_call 65 = .ok (.iconst 1, 1) := by decide +kernel
theorem dX7_call_66 : decode cX7_call 66 = .ok (.invokevirtual 176, 3) := by decide +kernel
theorem dX7_call_69 : decode cX7_call 69 = .ok (.ifCond .ne (-22), 3) := by decide +kernel
theorem dX7_call_72 : decode cX7_call 72 = .ok (.iconst 0, 1) := by decide +kernel
theorem dX7_call_73 : decode cX7_call 73 = .ok (.ireturn, 1) := by decide +kernel
theorem dX7_call_74 : decode cX7_call 74 = .ok (.aload_n 0, 1) := by decide +kernel
theorem dX7_call_75 : decode cX7_call 75 = .ok (.ldc 161, 2) := by decide +kernel
theorem dX7_call_77 : decode cX7_call 77 = .ok (.iconst 1, 1) := by decide +kernel
theorem dX7_call_78 : decode cX7_call 78 = .ok (.invokevirtual 172, 3) := by decide +kernel
theorem dX7_call_81 : decode cX7_call 81 = .ok (.ifCond .eq 17, 3) := by decide +kernel
theorem dX7_call_84 : decode cX7_call 84 = .ok (.aload_n 0, 1) := by decide +kernel
theorem dX7_call_85 : decode cX7_call 85 = .ok (.ldc 196, 2) := by decide +kernel
theorem dX7_call_87 : decode cX7_call 87 = .ok (.iconst 1, 1) := by decide +kernel
theorem dX7_call_88 : decode cX7_call 88 = .ok (.invokevirtual 172, 3) := by decide +kernel
theorem dX7_call_91 : decode cX7_call 91 = .ok (.ifCond .eq 7, 3) := by decide +kernel
theorem dX7_call_94 : decode cX7_call 94 = .ok (.iconst 1, 1) := by decide +kernel
theorem dX7_call_95 : decode cX7_call 95 = .ok (.goto 4, 3) := by decide +kernel
theorem dX7_call_98 : decode cX7_call 98 = .ok (.iconst 0, 1) := by decide +kernel
theorem dX7_call_99 : decode cX7_call 99 = .ok (.ireturn, 1) := by decide +kernel
theorem dX7_statement_0 : decode cX7_statement 0 = .ok (.aload_n 0, 1) := by decide +kernel
theorem dX7_statement_1 : decode cX7_statement 1 = .ok (.ldc 140, 2) := by decide +kernel
theorem dX7_statement_3 : decode cX7_statement 3 = .ok (.invokevirtual 132, 3) := by decide +kernel
theorem dX7_statement_6 : decode cX7_statement 6 = .ok (.ifCond .eq 19, 3) := by decide +kernel
theorem dX7_statement_9 : decode cX7_statement 9 = .ok (.aload_n 0, 1) := by decide +kernel
theorem dX7_statement_10 : decode cX7_statement 10 = .ok (.getfield 33, 3) := by decide +kernel
theorem dX7_statement_13 : decode cX7_statement 13 = .ok (.bipush 12, 2) := by decide +kernel
theorem dX7_statement_15 : decode cX7_statement 15 = .ok (.dup2, 1) := by decide +kernel
theorem dX7_statement_16 : decode cX7_statement 16 = .ok (.iaload, 1) := by decide +kernel
theorem dX7_statement_17 : decode cX7_statement 17 = .ok (.iconst 1, 1) := by decide +kernel
theorem dX7_statement_18 : decode cX7_statement 18 = .ok (.iadd, 1) := by decide +kernel
theorem dX7_statement_19 : decode cX7_statement 19 = .ok (.iastore, 1) := by decide +kernel
theorem dX7_statement_20 : decode cX7_statement 20 = .ok (.aload_n 0, 1) := by decide +kernel
theorem dX7_statement_21 : decode cX7_statement 21 = .ok (.invokevirtual 198, 3) := by decide +kernel
theorem dX7_statement_24 : decode cX7_statement 24 = .ok (.ireturn, 1) := by decide +kernel
theorem dX7_statement_25 : decode cX7_statement 25 = .ok (.aload_n 0, 1) := by decide +kernel
theorem dX7_statement_26 : decode cX7_statement 26 = .ok (.ldc 138, 2) := by decide +kernel
theorem dX7_statement_28 : decode cX7_statement 28 = .ok (.invokevirtual 132, 3) := by decide +kernel
theorem dX7_statement_31 : decode cX7_statement 31 = .ok (.ifCond .eq 44, 3) := by decide +kernel
theorem dX7_statement_34 : decode cX7_statement 34 = .ok (.aload_n 0, 1) := by decide +kernel
theorem dX7_statement_35 : decode cX7_statement 35 = .ok (.getfield 33, 3) := by decide +kernel
theorem dX7_statement_38 : decode cX7_statement 38 = .ok (.bipush 12, 2) := by decide +kernel
theorem dX7_statement_40 : decode cX7_statement 40 = .ok (.dup2, 1) := by decide +kernel
theorem dX7_statement_41 : decode cX7_statement 41 = .ok (.iaload, 1) := by decide +kernel
theorem dX7_statement_42 : decode cX7_statement 42 = .ok (.iconst 1, 1) := by decide +kernel
theorem dX7_statement_43 : decode cX7_statement 43 = .ok (.iadd, 1) := by decide +kernel
theorem dX7_statement_44 : decode cX7_statement 44 = .ok (.iastore, 1) := by decide +kernel
theorem dX7_statement_45 : decode cX7_statement 45 = .ok (.aload_n 0, 1) := by decide +kernel
theorem dX7_statement_46 : decode cX7_statement 46 = .ok (.iconst 3, 1) := by decide +kernel
theorem dX7_statement_47 : decode cX7_statement 47 = .ok (.invokevirtual 166, 3) := by decide +kernel
theorem dX7_statement_50 : decode cX7_statement 50 = .ok (.ifCond .eq 23, 3) := by decide +kernel
theorem dX7_statement_53 : decode cX7_statement 53 = .ok (.aload_n 0, 1) := by decide +kernel
theorem dX7_statement_54 : decode cX7_statement 54 = .ok (.iconst 3, 1) := by decide +kernel
theorem dX7_statement_55 : decode cX7_statement 55 = .ok (.invokevirtual 176, 3) := by decide +kernel
theorem dX7_statement_58 : decode cX7_statement 58 = .ok (.ifCond .eq 15, 3) := by decide +kernel
theorem dX7_statement_61 : decode cX7_statement 61 = .ok (.aload_n 0, 1) := by decide +kernel
theorem dX7_statement_62 : decode cX7_statement 62 = .ok (.iconst 3, 1) := by decide +kernel
theorem dX7_statement_63 : decode cX7_statement 63 = .ok (.invokevirtual 200, 3) := by decide +kernel
theorem dX7_statement_66 : decode cX7_statement 66 = .ok (.ifCond .eq 7, 3) := by decide +kernel
theorem dX7_statement_69 : decode cX7_statement 69 = .ok (.iconst 1, 1) := by decide +kernel
theorem dX7_statement_70 : decode cX7_statement 70 = .ok (.goto 4, 3) := by decide +kernel
theorem dX7_statement_73 : decode cX7_statement 73 = .ok (.iconst 0, 1) := by decide +kernel
theorem dX7_statement_74 : decode cX7_statement 74 = .ok (.ireturn, 1) := by decide +kernel
theorem dX7_statement_75 : decode cX7_statement 75 = .ok (.aload_n 0, 1) := by decide +kernel
theorem dX7_statement_76 : decode cX7_statement 76 = .ok (.ldc 130, 2) := by decide +kernel
theorem dX7_statement_78 : decode cX7_statement 78 = .ok (.invokevirtual 132, 3) := by decide +kernel
theorem dX7_statement_81 : decode cX7_statement 81 = .ok (.ifCond .eq 71, 3) := by decide +kernel
theorem dX7_statement_84 : decode cX7_statement 84 = .ok (.aload_n 0, 1) := by decide +kernel
theorem dX7_statement_85 : decode cX7_statement 85 = .ok (.getfield 33, 3) := by decide +kernel
theorem dX7_statement_88 : decode cX7_statement 88 = .ok (.bipush 12, 2) := by decide +kernel
theorem dX7_statement_90 : decode cX7_statement 90 = .ok (.dup2, 1) := by decide +kernel
theorem dX7_statement_91 : decode cX7_statement 91 = .ok (.iaload, 1) := by decide +kernel
theorem dX7_statement_92 : decode cX7_statement 92 = .ok (.iconst 1, 1) := by decide +kernel
theorem dX7_statement_93 : decode cX7_statement 93 = .ok (.iadd, 1) := by decide +kernel
theorem dX7_statement_94 : decode cX7_statement 94 = .ok (.iastore, 1) := by decide +kernel
theorem dX7_statement_95 : decode cX7_statement 95 = .ok (.aload_n 0, 1) := by decide +kernel
theorem dX7_statement_96 : decode cX7_statement 96 = .ok (.iconst 2, 1) := by decide +kernel
theorem dX7_statement_97 : decode cX7_statement 97 = .ok (.invokevirtual 166, 3) := by decide +kernel
theorem dX7_statement_100 : decode cX7_statement 100 = .ok (.ifCond .eq 19, 3) := by decide +kernel
theorem dX7_statement_103 : decode cX7_statement 103 = .ok (.aload_n 0, 1) := by decide +kernel
theorem dX7_statement_104 : decode cX7_statement 104 = .ok (.iconst 2, 1) := by decide +kernel
theorem dX7_statement_105 : decode cX7_statement 105 = .ok (.invokevirtual 176, 3) := by decide +kernel
theorem dX7_statement_108 : decode cX7_statement 108 = .ok (.ifCond .eq 11, 3) := by decide +kernel
theorem dX7_statement_111 : decode cX7_statement 111 = .ok (.aload_n 0, 1) := by decide +kernel
theorem dX7_statement_112 : decode cX7_statement 112 = .ok (.iconst 2, 1) := by decide +kernel
theorem dX7_statement_113 : decode cX7_statement 113 = .ok (.invokevirtual 200, 3) := by decide +kernel
theorem dX7_statement_116 : decode cX7_statement 116 = .ok (.ifCond .ne 5, 3) := by decide +kernel
theorem dX7_statement_119 : decode cX7_statement 119 = .ok (.iconst 0, 1) := by decide +kernel
theorem dX7_statement_120 : decode cX7_statement 120 = .ok (.ireturn, 1) := by decide +kernel
theorem dX7_statement_121 : decode cX7_statement 121 = .ok (.aload_n 0, 1) := by decide +kernel
theorem dX7_statement_122 : decode cX7_statement 122 = .ok (.ldc 136, 2) := by decide +kernel
theorem dX7_statement_124 : decode cX7_statement 124 = .ok (.invokevirtual 132, 3) := by decide +kernel
theorem dX7_statement_127 : decode cX7_statement 127 = .ok (.ifCond .eq 19, 3) := by decide +kernel
theorem dX7_statement_130 : decode cX7_statement 130 = .ok (.aload_n 0, 1) := by decide +kernel
theorem dX7_statement_131 : decode cX7_statement 131 = .ok (.iconst 2, 1) := by decide +kernel
theorem dX7_statement_132 : decode cX7_statement 132 = .ok (.invokevirtual 166, 3) := by decide +kernel
theorem dX7_statement_135 : decode cX7_statement 135 = .ok (.ifCond .eq 15, 3) := by decide +kernel
theorem dX7_statement_138 : decode cX7_statement 138 = .ok (.aload_n 0, 1) := by decide +kernel
theorem dX7_statement_139 : decode cX7_statement 139 = .ok (.iconst 2, 1) := by decide +kernel
theorem dX7_statement_140 : decode cX7_statement 140 = .ok (.invokevirtual 200, 3) := by decide +kernel
theorem dX7_statement_143 : decode cX7_statement 143 = .ok (.ifCond .eq 7, 3) := by decide +kernel
theorem dX7_statement_146 : decode cX7_statement 146 = .ok (.iconst 1, 1) := by decide +kernel
theorem dX7_statement_147 : decode cX7_statement 147 = .ok (.goto 4, 3) := by decide +kernel
theorem dX7_statement_150 : decode cX7_statement 150 = .ok (.iconst 0, 1) := by decide +kernel
theorem dX7_statement_151 : decode cX7_statement 151 = .ok (.ireturn, 1) := by decide +kernel
theorem dX7_statement_152 : decode cX7_statement 152 = .ok (.aload_n 0, 1) := by decide +kernel
theorem dX7_statement_153 : decode cX7_statement 153 = .ok (.invokevirtual 169, 3) := by decide +kernel
theorem dX7_statement_156 : decode cX7_statement 156 = .ok (.ifCond .ne 9, 3) := by decide +kernel
theorem dX7_statement_159 : decode cX7_statement 159 = .ok (.aload_n 0, 1) := by decide +kernel
theorem dX7_statement_160 : decode cX7_statement 160 = .ok (.iconst 1, 1) := by decide +kernel
theorem dX7_statement_161 : decode cX7_statement 161 = .ok (.invokevirtual 146, 3) := by decide +kernel
theorem dX7_statement_164 : decode cX7_statement 164 = .ok (.ireturn, 1) := by decide +kernel
theorem dX7_statement_165 : decode cX7_statement 165 = .ok (.aload_n 0, 1) := by decide +kernel
theorem dX7_statement_166 : decode cX7_statement 166 = .ok (.getfield 33, 3) := by decide +kernel
theorem dX7_statement_169 : decode cX7_statement 169 = .ok (.bipush 12, 2) := by decide +kernel
theorem dX7_statement_171 : decode cX7_statement 171 = .ok (.dup2, 1) := by decide +kernel
theorem dX7_statement_172 : decode cX7_statement 172 = .ok (.iaload, 1) := by decide +kernel
theorem dX7_statement_173 : decode cX7_statement 173 = .ok (.iconst 1, 1) := by decide +kernel
theorem dX7_statement_174 : decode cX7_statement 174 = .ok (.iadd, 1) := by decide +kernel
theorem dX7_statement_175 : decode cX7_statement 175 = .ok (.iastore, 1) := by decide +kernel
theorem dX7_statement_176 : decode cX7_statement 176 = .ok (.aload_n 0, 1) := by decide +kernel
theorem dX7_statement_177 : decode cX7_statement 177 = .ok (.iconst 0, 1) := by decide +kernel
theorem dX7_statement_178 : decode cX7_statement 178 = .ok (.invokevirtual 166, 3) := by decide +kernel
theorem dX7_statement_181 : decode cX7_statement 181 = .ok (.ifCond .eq 35, 3) := by decide +kernel
theorem dX7_statement_184 : decode cX7_statement 184 = .ok (.aload_n 0, 1) := by decide +kernel
theorem dX7_statement_185 : decode cX7_statement 185 = .ok (.ldc 203, 2) := by decide +kernel
theorem dX7_statement_187 : decode cX7_statement 187 = .ok (.iconst 0, 1) := by decide +kernel
theorem dX7_statement_188 : decode cX7_statement 188 = .ok (.invokevirtual 172, 3) := by decide +kernel
theorem dX7_statement_191 : decode cX7_statement 191 = .ok (.ifCond .eq 25, 3) := by decide +kernel
theorem dX7_statement_194 : decode cX7_statement 194 = .ok (.aload_n 0, 1) := by decide +kernel
theorem dX7_statement_195 : decode cX7_statement 195 = .ok (.iconst 0, 1) := by decide +kernel
theorem dX7_statement_196 : decode cX7_statement 196 = .ok (.invokevirtual 176, 3) := by decide +kernel
theorem dX7_statement_199 : decode cX7_statement 199 = .ok (.ifCond .eq 17, 3) := by decide +kernel
theorem dX7_statement_202 : decode cX7_statement 202 = .ok (.aload_n 0, 1) := by decide +kernel
theorem dX7_statement_203 : decode cX7_statement 203 = .ok (.ldc 196, 2) := by decide +kernel
theorem dX7_statement_205 : decode cX7_statement 205 = .ok (.iconst 0, 1) := by decide +kernel
theorem dX7_statement_206 : decode cX7_statement 206 = .ok (.invokevirtual 172, 3) := by decide +kernel
theorem dX7_statement_209 : decode cX7_statement 209 = .ok (.ifCond .eq 7, 3) := by decide +kernel
theorem dX7_statement_212 : decode cX7_statement 212 = .ok (.iconst 1, 1) := by decide +kernel
theorem dX7_statement_213 : decode cX7_statement 213 = .ok (.goto 4, 3) := by decide +kernel
theorem dX7_statement_216 : decode cX7_statement 216 = .ok (.iconst 0, 1) := by decide +kernel
theorem dX7_statement_217 : decode cX7_statement 217 = .ok (.ireturn, 1) := by decide +kernel
theorem dX7_reads_0 : decode cX7_reads 0 = .ok (.aload_n 0, 1) := by decide +kernel
theorem dX7_reads_1 : decode cX7_reads 1 = .ok (.iconst 0, 1) := by decide +kernel
theorem dX7_reads_2 : decode cX7_reads 2 = .ok (.putfield 88, 3) := by decide +kernel
theorem dX7_reads_5 : decode cX7_reads 5 = .ok (.aload_n 0, 1) := by decide +kernel
theorem dX7_reads_6 : decode cX7_reads 6 = .ok (.iconst 0, 1) := by decide +kernel
theorem dX7_reads_7 : decode cX7_reads 7 = .ok (.putfield 153, 3) := by decide +kernel
theorem dX7_reads_10 : decode cX7_reads 10 = .ok (.aload_n 0, 1) := by decide +kernel
theorem dX7_reads_11 : decode cX7_reads 11 = .ok (.iconst 0, 1) := by decide +kernel
theorem dX7_reads_12 : decode cX7_reads 12 = .ok (.putfield 158, 3) := by decide +kernel
theorem dX7_reads_15 : decode cX7_reads 15 = .ok (.aload_n 0, 1) := by decide +kernel
theorem dX7_reads_16 : decode cX7_reads 16 = .ok (.getfield 30, 3) := by decide +kernel
theorem dX7_reads_19 : decode cX7_reads 19 = .ok (.bipush 12, 2) := by decide +kernel
theorem dX7_reads_21 : decode cX7_reads 21 = .ok (.iconst 0, 1) := by decide +kernel
theorem dX7_reads_22 : decode cX7_reads 22 = .ok (.iastore, 1) := by decide +kernel
theorem dX7_reads_23 : decode cX7_reads 23 = .ok (.aload_n 0, 1) := by decide +kernel
theorem dX7_reads_24 : decode cX7_reads 24 = .ok (.getfield 33, 3) := by decide +kernel
theorem dX7_reads_27 : decode cX7_reads 27 = .ok (.bipush 12, 2) := by decide +kernel
theorem dX7_reads_29 : decode cX7_reads 29 = .ok (.iconst 0, 1) := by decide +kernel
theorem dX7_reads_30 : decode cX7_reads 30 = .ok (.iastore, 1) := by decide +kernel
theorem dX7_reads_31 : decode cX7_reads 31 = .ok (.aload_n 0, 1) := by decide +kernel
theorem dX7_reads_32 : decode cX7_reads 32 = .ok (.invokevirtual 163, 3) := by decide +kernel
theorem dX7_reads_35 : decode cX7_reads 35 = .ok (.aload_n 0, 1) := by decide +kernel
theorem dX7_reads_36 : decode cX7_reads 36 = .ok (.getfield 98, 3) := by decide +kernel
theorem dX7_reads_39 : decode cX7_reads 39 = .ok (.ifCond .le 12, 3) := by decide +kernel
theorem dX7_reads_42 : decode cX7_reads 42 = .ok (.aload_n 0, 1) := by decide +kernel
theorem dX7_reads_43 : decode cX7_reads 43 = .ok (.invokevirtual 188, 3) := by decide +kernel
theorem dX7_reads_46 : decode cX7_reads 46 = .ok (.ifCond .ne (-11), 3) := by decide +kernel
theorem dX7_reads_49 : decode cX7_reads 49 = .ok (.iconst 0, 1) := by decide +kernel
theorem dX7_reads_50 : decode cX7_reads 50 = .ok (.ireturn, 1) := by decide +kernel
theorem dX7_reads_51 : decode cX7_reads 51 = .ok (.aload_n 0, 1) := by decide +kernel
theorem dX7_reads_52 : decode cX7_reads 52 = .ok (.getfield 17, 3) := by decide +kernel
theorem dX7_reads_55 : decode cX7_reads 55 = .ok (.iload_n 1, 1) := by decide +kernel
theorem dX7_reads_56 : decode cX7_reads 56 = .ok (.iconst 1, 1) := by decide +kernel
theorem dX7_reads_57 : decode cX7_reads 57 = .ok (.bastore, 1) := by decide +kernel
theorem dX7_reads_58 : decode cX7_reads 58 = .ok (.aload_n 0, 1) := by decide +kernel
theorem dX7_reads_59 : decode cX7_reads 59 = .ok (.getfield 27, 3) := by decide +kernel
theorem dX7_reads_62 : decode cX7_reads 62 = .ok (.iload_n 1, 1) := by decide +kernel
theorem dX7_reads_63 : decode cX7_reads 63 = .ok (.iload_n 2, 1) := by decide +kernel
theorem dX7_reads_64 : decode cX7_reads 64 = .ok (.iastore, 1) := by decide +kernel
theorem dX7_reads_65 : decode cX7_reads 65 = .ok (.aload_n 0, 1) := by decide +kernel
theorem dX7_reads_66 : decode cX7_reads 66 = .ok (.getfield 24, 3) := by decide +kernel
theorem dX7_reads_69 : decode cX7_reads 69 = .ok (.iload_n 1, 1) := by decide +kernel
theorem dX7_reads_70 : decode cX7_reads 70 = .ok (.aload_n 0, 1) := by decide +kernel
theorem dX7_reads_71 : decode cX7_reads 71 = .ok (.getfield 24, 3) := by decide +kernel
theorem dX7_reads_74 : decode cX7_reads 74 = .ok (.bipush 12, 2) := by decide +kernel
theorem dX7_reads_76 : decode cX7_reads 76 = .ok (.iaload, 1) := by decide +kernel
theorem dX7_reads_77 : decode cX7_reads 77 = .ok (.iastore, 1) := by decide +kernel
theorem dX7_reads_78 : decode cX7_reads 78 = .ok (.aload_n 0, 1) := by decide +kernel
theorem dX7_reads_79 : decode cX7_reads 79 = .ok (.getfield 30, 3) := by decide +kernel
theorem dX7_reads_82 : decode cX7_reads 82 = .ok (.iload_n 1, 1) := by decide +kernel
theorem dX7_reads_83 : decode cX7_reads 83 = .ok (.aload_n 0, 1) := by decide +kernel
theorem dX7_reads_84 : decode cX7_reads 84 = .ok (.getfield 30, 3) := by decide +kernel
theorem dX7_reads_87 : decode cX7_reads 87 = .ok (.bipush 12, 2) := by decide +kernel
theorem dX7_reads_89 : decode cX7_reads 89 = .ok (.iaload, 1) := by decide +kernel
theorem dX7_reads_90 : decode cX7_reads 90 = .ok (.iastore, 1) := by decide +kernel
theorem dX7_reads_91 : decode cX7_reads 91 = .ok (.aload_n 0, 1) := by decide +kernel
theorem dX7_reads_92 : decode cX7_reads 92 = .ok (.getfield 33, 3) := by decide +kernel
theorem dX7_reads_95 : decode cX7_reads 95 = .ok (.iload_n 1, 1) := by decide +kernel
theorem dX7_reads_96 : decode cX7_reads 96 = .ok (.aload_n 0, 1) := by decide +kernel
theorem dX7_reads_97 : decode cX7_reads 97 = .ok (.getfield 33, 3) := by decide +kernel
theorem dX7_reads_100 : decode cX7_reads 100 = .ok (.bipush 12, 2) := by decide +kernel
theorem dX7_reads_102 : decode cX7_reads 102 = .ok (.iaload, 1) := by decide +kernel
theorem dX7_reads_103 : decode cX7_reads 103 = .ok (.iastore, 1) := by decide +kernel
theorem dX7_reads_104 : decode cX7_reads 104 = .ok (.iconst 0, 1) := by decide +kernel
theorem dX7_reads_105 : decode cX7_reads 105 = .ok (.istore_n 3, 1) := by decide +kernel
theorem dX7_reads_106 : decode cX7_reads 106 = .ok (.iload_n 3, 1) := by decide +kernel
theorem dX7_reads_107 : decode cX7_reads 107 = .ok (.aload_n 0, 1) := by decide +kernel
theorem dX7_reads_108 : decode cX7_reads 108 = .ok (.getfield 24, 3) := by decide +kernel
theorem dX7_reads_111 : decode cX7_reads 111 = .ok (.iload_n 1, 1) := by decide +kernel
theorem dX7_reads_112 : decode cX7_reads 112 = .ok (.iaload, 1) := by decide +kernel
theorem dX7_reads_113 : decode cX7_reads 113 = .ok (.if_icmp .ge 31, 3) := by decide +kernel
theorem dX7_reads_116 : decode cX7_reads 116 = .ok (.aload_n 0, 1) := by decide +kernel
theorem dX7_reads_117 : decode cX7_reads 117 = .ok (.getfield 21, 3) := by decide +kernel
theorem dX7_reads_120 : decode cX7_reads 120 = .ok (.sipush 800, 3) := by decide +kernel
theorem dX7_reads_123 : decode cX7_reads 123 = .ok (.iload_n 1, 1) := by decide +kernel
theorem dX7_reads_124 : decode cX7_reads 124 = .ok (.imul, 1) := by decide +kernel
theorem dX7_reads_125 : decode cX7_reads 125 = .ok (.iload_n 3, 1) := by decide +kernel
theorem dX7_reads_126 : decode cX7_reads 126 = .ok (.iadd, 1) := by decide +kernel
theorem dX7_reads_127 : decode cX7_reads 127 = .ok (.aload_n 0, 1) := by decide +kernel
theorem dX7_reads_128 : decode cX7_reads 128 = .ok (.getfield 21, 3) := by decide +kernel
theorem dX7_reads_131 : decode cX7_reads 131 = .ok (.sipush 9600, 3) := by decide +kernel
theorem dX7_reads_134 : decode cX7_reads 134 = .ok (.iload_n 3, 1) := by decide +kernel
theorem dX7_reads_135 : decode cX7_reads 135 = .ok (.iadd, 1) := by decide +kernel
theorem dX7_reads_136 : decode cX7_reads 136 = .ok (.iaload, 1) := by decide +kernel
theorem dX7_reads_137 : decode cX7_reads 137 = .ok (.iastore, 1) := by decide +kernel
theorem dX7_reads_138 : decode cX7_reads 138 = .ok (.iinc 3 1, 3) := by decide +kernel
theorem dX7_reads_141 : decode cX7_reads 141 = .ok (.goto (-35), 3) := by decide +kernel
theorem dX7_reads_144 : decode cX7_reads 144 = .ok (.iconst 0, 1) := by decide +kernel
theorem dX7_reads_145 : decode cX7_reads 145 = .ok (.istore_n 3, 1) := by decide +kernel
theorem dX7_reads_146 : decode cX7_reads 146 = .ok (.iload_n 3, 1) := by decide +kernel
theorem dX7_reads_147 : decode cX7_reads 147 = .ok (.aload_n 0, 1) := by decide +kernel
theorem dX7_reads_148 : decode cX7_reads 148 = .ok (.getfield 30, 3) := by decide +kernel
theorem dX7_reads_151 : decode cX7_reads 151 = .ok (.iload_n 1, 1) := by decide +kernel
theorem dX7_reads_152 : decode cX7_reads 152 = .ok (.iaload, 1) := by decide +kernel
theorem dX7_reads_153 : decode cX7_reads 153 = .ok (.if_icmp .ge 119, 3) := by decide +kernel
theorem dX7_reads_156 : decode cX7_reads 156 = .ok (.aload_n 0, 1) := by decide +kernel
theorem dX7_reads_157 : decode cX7_reads 157 = .ok (.getfield 36, 3) := by decide +kernel
theorem dX7_reads_160 : decode cX7_reads 160 = .ok (.sipush 201, 3) := by decide +kernel
theorem dX7_reads_163 : decode cX7_reads 163 = .ok (.iload_n 1, 1) := by decide +kernel
theorem dX7_reads_164 : decode cX7_reads 164 = .ok (.imul, 1) := by decide +kernel
theorem dX7_reads_165 : decode cX7_reads 165 = .ok (.iload_n 3, 1) := by decide +kernel
theorem dX7_reads_166 : decode cX7_reads 166 = .ok (.iadd, 1) := by decide +kernel
theorem dX7_reads_167 : decode cX7_reads 167 = .ok (.aload_n 0, 1) := by decide +kernel
theorem dX7_reads_168 : decode cX7_reads 168 = .ok (.getfield 36, 3) := by decide +kernel
theorem dX7_reads_171 : decode cX7_reads 171 = .ok (.sipush 2412, 3) := by decide +kernel
theorem dX7_reads_174 : decode cX7_reads 174 = .ok (.iload_n 3, 1) := by decide +kernel
theorem dX7_reads_175 : decode cX7_reads 175 = .ok (.iadd, 1) := by decide +kernel
theorem dX7_reads_176 : decode cX7_reads 176 = .ok (.iaload, 1) := by decide +kernel
theorem dX7_reads_177 : decode cX7_reads 177 = .ok (.iastore, 1) := by decide +kernel
theorem dX7_reads_178 : decode cX7_reads 178 = .ok (.aload_n 0, 1) := by decide +kernel
theorem dX7_reads_179 : decode cX7_reads 179 = .ok (.getfield 39, 3) := by decide +kernel
theorem dX7_reads_182 : decode cX7_reads 182 = .ok (.sipush 201, 3) := by decide +kernel
theorem dX7_reads_185 : decode cX7_reads 185 = .ok (.iload_n 1, 1) := by decide +kernel
theorem dX7_reads_186 : decode cX7_reads 186 = .ok (.imul, 1) := by decide +kernel
theorem dX7_reads_187 : decode cX7_reads 187 = .ok (.iload_n 3, 1) := by decide +kernel
theorem dX7_reads_188 : decode cX7_reads 188 = .ok (.iadd, 1) := by decide +kernel
theorem dX7_reads_189 : decode cX7_reads 189 = .ok (.aload_n 0, 1) := by decide +kernel
theorem dX7_reads_190 : decode cX7_reads 190 = .ok (.getfield 39, 3) := by decide +kernel
theorem dX7_reads_193 : decode cX7_reads 193 = .ok (.sipush 2412, 3) := by decide +kernel
theorem dX7_reads_196 : decode cX7_reads 196 = .ok (.iload_n 3, 1) := by decide +kernel
theorem dX7_reads_197 : decode cX7_reads 197 = .ok (.iadd, 1) := by decide +kernel
theorem dX7_reads_198 : decode cX7_reads 198 = .ok (.iaload, 1) := by decide +kernel
theorem dX7_reads_199 : decode cX7_reads 199 = .ok (.iastore, 1) := by decide +kernel
theorem dX7_reads_200 : decode cX7_reads 200 = .ok (.aload_n 0, 1) := by decide +kernel
theorem dX7_reads_201 : decode cX7_reads 201 = .ok (.getfield 42, 3) := by decide +kernel
theorem dX7_reads_204 : decode cX7_reads 204 = .ok (.sipush 201, 3) := by decide +kernel
theorem dX7_reads_207 : decode cX7_reads 207 = .ok (.iload_n 1, 1) := by decide +kernel
theorem dX7_reads_208 : decode cX7_reads 208 = .ok (.imul, 1) := by decide +kernel
theorem dX7_reads_209 : decode cX7_reads 209 = .ok (.iload_n 3, 1) := by decide +kernel
theorem dX7_reads_210 : decode cX7_reads 210 = .ok (.iadd, 1) := by decide +kernel
theorem dX7_reads_211 : decode cX7_reads 211 = .ok (.aload_n 0, 1) := by decide +kernel
theorem dX7_reads_212 : decode cX7_reads 212 = .ok (.getfield 42, 3) := by decide +kernel
theorem dX7_reads_215 : decode cX7_reads 215 = .ok (.sipush 2412, 3) := by decide +kernel
theorem dX7_reads_218 : decode cX7_reads 218 = .ok (.iload_n 3, 1) := by decide +kernel
theorem dX7_reads_219 : decode cX7_reads 219 = .ok (.iadd, 1) := by decide +kernel
theorem dX7_reads_220 : decode cX7_reads 220 = .ok (.iaload, 1) := by decide +kernel
theorem dX7_reads_221 : decode cX7_reads 221 = .ok (.iastore, 1) := by decide +kernel
theorem dX7_reads_222 : decode cX7_reads 222 = .ok (.aload_n 0, 1) := by decide +kernel
theorem dX7_reads_223 : decode cX7_reads 223 = .ok (.getfield 45, 3) := by decide +kernel
theorem dX7_reads_226 : decode cX7_reads 226 = .ok (.sipush 201, 3) := by decide +kernel
theorem dX7_reads_229 : decode cX7_reads 229 = .ok (.iload_n 1, 1) := by decide +kernel
theorem dX7_reads_230 : decode cX7_reads 230 = .ok (.imul, 1) := by decide +kernel
theorem dX7_reads_231 : decode cX7_reads 231 = .ok (.iload_n 3, 1) := by decide +kernel
theorem dX7_reads_232 : decode cX7_reads 232 = .ok (.iadd, 1) := by decide +kernel
theorem dX7_reads_233 : decode cX7_reads 233 = .ok (.aload_n 0, 1) := by decide +kernel
theorem dX7_reads_234 : decode cX7_reads 234 = .ok (.getfield 45, 3) := by decide +kernel
theorem dX7_reads_237 : decode cX7_reads 237 = .ok (.sipush 2412, 3) := by decide +kernel
theorem dX7_reads_240 : decode cX7_reads 240 = .ok (.iload_n 3, 1) := by decide +kernel
theorem dX7_reads_241 : decode cX7_reads 241 = .ok (.iadd, 1) := by decide +kernel
theorem dX7_reads_242 : decode cX7_reads 242 = .ok (.iaload, 1) := by decide +kernel
theorem dX7_reads_243 : decode cX7_reads 243 = .ok (.iastore, 1) := by decide +kernel
theorem dX7_reads_244 : decode cX7_reads 244 = .ok (.aload_n 0, 1) := by decide +kernel
theorem dX7_reads_245 : decode cX7_reads 245 = .ok (.getfield 48, 3) := by decide +kernel
theorem dX7_reads_248 : decode cX7_reads 248 = .ok (.sipush 201, 3) := by decide +kernel
theorem dX7_reads_251 : decode cX7_reads 251 = .ok (.iload_n 1, 1) := by decide +kernel
theorem dX7_reads_252 : decode cX7_reads 252 = .ok (.imul, 1) := by decide +kernel
theorem dX7_reads_253 : decode cX7_reads 253 = .ok (.iload_n 3, 1) := by decide +kernel
theorem dX7_reads_254 : decode cX7_reads 254 = .ok (.iadd, 1) := by decide +kernel
theorem dX7_reads_255 : decode cX7_reads 255 = .ok (.aload_n 0, 1) := by decide +kernel
theorem dX7_reads_256 : decode cX7_reads 256 = .ok (.getfield 48, 3) := by decide +kernel
theorem dX7_reads_259 : decode cX7_reads 259 = .ok (.sipush 2412, 3) := by decide +kernel
theorem dX7_reads_262 : decode cX7_reads 262 = .ok (.iload_n 3, 1) := by decide +kernel
theorem dX7_reads_263 : decode cX7_reads 263 = .ok (.iadd, 1) := by decide +kernel
theorem dX7_reads_264 : decode cX7_reads 264 = .ok (.iaload, 1) := by decide +kernel
theorem dX7_reads_265 : decode cX7_reads 265 = .ok (.iastore, 1) := by decide +kernel
theorem dX7_reads_266 : decode cX7_reads 266 = .ok (.iinc 3 1, 3) := by decide +kernel
theorem dX7_reads_269 : decode cX7_reads 269 = .ok (.goto (-123), 3) := by decide +kernel
theorem dX7_reads_272 : decode cX7_reads 272 = .ok (.iconst 1, 1) := by decide +kernel
theorem dX7_reads_273 : decode cX7_reads 273 = .ok (.ireturn, 1) := by decide +kernel
theorem dX7_isNumber_0 : decode cX7_isNumber 0 = .ok (.iload_n 0, 1) := by decide +kernel
theorem dX7_isNumber_1 : decode cX7_isNumber 1 = .ok (.ifCond .lt 13, 3) := by decide +kernel
theorem dX7_isNumber_4 : decode cX7_isNumber 4 = .ok (.iload_n 0, 1) := by decide +kernel
theorem dX7_isNumber_5 : decode cX7_isNumber 5 = .ok (.bipush 12, 2) := by decide +kernel
theorem dX7_isNumber_7 : decode cX7_isNumber 7 = .ok (.if_icmp .ge 7, 3) := by decide +kernel
theorem dX7_isNumber_10 : decode cX7_isNumber 10 = .ok (.iconst 1, 1) := by decide +kernel
theorem dX7_isNumber_11 : decode cX7_isNumber 11 = .ok (.goto 4, 3) := by decide +kernel
theorem dX7_isNumber_14 : decode cX7_isNumber 14 = .ok (.iconst 0, 1) := by decide +kernel
theorem dX7_isNumber_15 : decode cX7_isNumber 15 = .ok (.ireturn, 1) := by decide +kernel
theorem dX7_text_0 : decode cX7_text 0 = .ok (.aload_n 0, 1) := by decide +kernel
theorem dX7_text_1 : decode cX7_text 1 = .ok (.iconst 0, 1) := by decide +kernel
theorem dX7_text_2 : decode cX7_text 2 = .ok (.putfield 78, 3) := by decide +kernel
theorem dX7_text_5 : decode cX7_text 5 = .ok (.aload_n 0, 1) := by decide +kernel
theorem dX7_text_6 : decode cX7_text 6 = .ok (.iload_n 1, 1) := by decide +kernel
theorem dX7_text_7 : decode cX7_text 7 = .ok (.invokestatic 205, 3) := by decide +kernel
theorem dX7_text_10 : decode cX7_text 10 = .ok (.ifCond .eq 28, 3) := by decide +kernel
theorem dX7_text_13 : decode cX7_text 13 = .ok (.iload_n 2, 1) := by decide +kernel
theorem dX7_text_14 : decode cX7_text 14 = .ok (.ifCond .lt 24, 3) := by decide +kernel
theorem dX7_text_17 : decode cX7_text 17 = .ok (.iload_n 2, 1) := by decide +kernel
theorem dX7_text_18 : decode cX7_text 18 = .ok (.iconst 3, 1) := by decide +kernel
theorem dX7_text_19 : decode cX7_text 19 = .ok (.if_icmp .gt 19, 3) := by decide +kernel
theorem dX7_text_22 : decode cX7_text 22 = .ok (.iload_n 3, 1) := by decide +kernel
theorem dX7_text_23 : decode cX7_text 23 = .ok (.ifCond .lt 15, 3) := by decide +kernel
theorem dX7_text_26 : decode cX7_text 26 = .ok (.iload_n 3, 1) := by decide +kernel
theorem dX7_text_27 : decode cX7_text 27 = .ok (.aload_n 0, 1) := by decide +kernel
theorem dX7_text_28 : decode cX7_text 28 = .ok (.getfield 81, 3) := by decide +kernel
theorem dX7_text_31 : decode cX7_text 31 = .ok (.if_icmp .gt 7, 3) := by decide +kernel
theorem dX7_text_34 : decode cX7_text 34 = .ok (.iconst 1, 1) := by decide +kernel
theorem dX7_text_35 : decode cX7_text 35 = .ok (.goto 4, 3) := by decide +kernel
theorem dX7_text_38 : decode cX7_text 38 = .ok (.iconst 0, 1) := by decide +kernel
theorem dX7_text_39 : decode cX7_text 39 = .ok (.iconst 1, 1) := by decide +kernel
theorem dX7_text_40 : decode cX7_text 40 = .ok (.invokevirtual 208, 3) := by decide +kernel
theorem dX7_text_43 : decode cX7_text 43 = .ok (.ifCond .ne 5, 3) := by decide +kernel
theorem dX7_text_46 : decode cX7_text 46 = .ok (.iconst 0, 1) := by decide +kernel
theorem dX7_text_47 : decode cX7_text 47 = .ok (.ireturn, 1) := by decide +kernel
theorem dX7_text_48 : decode cX7_text 48 = .ok (.aload_n 0, 1) := by decide +kernel
theorem dX7_text_49 : decode cX7_text 49 = .ok (.iconst 0, 1) := by decide +kernel
theorem dX7_text_50 : decode cX7_text 50 = .ok (.putfield 81, 3) := by decide +kernel
theorem dX7_text_53 : decode cX7_text 53 = .ok (.aload_n 0, 1) := by decide +kernel
theorem dX7_text_54 : decode cX7_text 54 = .ok (.iconst 0, 1) := by decide +kernel
theorem dX7_text_55 : decode cX7_text 55 = .ok (.putfield 119, 3) := by decide +kernel
theorem dX7_text_58 : decode cX7_text 58 = .ok (.aload_n 0, 1) := by decide +kernel
theorem dX7_text_59 : decode cX7_text 59 = .ok (.iconst (-1), 1) := by decide +kernel
theorem dX7_text_60 : decode cX7_text 60 = .ok (.putfield 13, 3) := by decide +kernel
theorem dX7_text_63 : decode cX7_text 63 = .ok (.aload_n 0, 1) := by decide +kernel
theorem dX7_text_64 : decode cX7_text 64 = .ok (.getfield 24, 3) := by decide +kernel
theorem dX7_text_67 : decode cX7_text 67 = .ok (.bipush 12, 2) := by decide +kernel
theorem dX7_text_69 : decode cX7_text 69 = .ok (.iload_n 3, 1) := by decide +kernel
theorem dX7_text_70 : decode cX7_text 70 = .ok (.iastore, 1) := by decide +kernel
theorem dX7_text_71 : decode cX7_text 71 = .ok (.iconst 0, 1) := by decide +kernel
theorem dX7_text_72 : decode cX7_text 72 = .ok (.istore 4, 2) := by decide +kernel
theorem dX7_text_74 : decode cX7_text 74 = .ok (.iload 4, 2) := by decide +kernel
theorem dX7_text_76 : decode cX7_text 76 = .ok (.iload_n 3, 1) := by decide +kernel
theorem dX7_text_77 : decode cX7_text 77 = .ok (.if_icmp .ge 27, 3) := by decide +kernel
theorem dX7_text_80 : decode cX7_text 80 = .ok (.aload_n 0, 1) := by decide +kernel
theorem dX7_text_81 : decode cX7_text 81 = .ok (.getfield 21, 3) := by decide +kernel
theorem dX7_text_84 : decode cX7_text 84 = .ok (.sipush 9600, 3) := by decide +kernel
theorem dX7_text_87 : decode cX7_text 87 = .ok (.iload 4, 2) := by decide +kernel
theorem dX7_text_89 : decode cX7_text 89 = .ok (.iadd, 1) := by decide +kernel
theorem dX7_text_90 : decode cX7_text 90 = .ok (.aload_n 0, 1) := by decide +kernel
theorem dX7_text_91 : decode cX7_text 91 = .ok (.getfield 7, 3) := by decide +kernel
theorem dX7_text_94 : decode cX7_text 94 = .ok (.iload 4, 2) := by decide +kernel
theorem dX7_text_96 : decode cX7_text 96 = .ok (.iaload, 1) := by decide +kernel
theorem dX7_text_97 : decode cX7_text 97 = .ok (.iastore, 1) := by decide +kernel
theorem dX7_text_98 : decode cX7_text 98 = .ok (.iinc 4 1, 3) := by decide +kernel
theorem dX7_text_101 : decode cX7_text 101 = .ok (.goto (-27), 3) := by decide +kernel
theorem dX7_text_104 : decode cX7_text 104 = .ok (.aload_n 0, 1) := by decide +kernel
theorem dX7_text_105 : decode cX7_text 105 = .ok (.iload_n 1, 1) := by decide +kernel
theorem dX7_text_106 : decode cX7_text 106 = .ok (.iload_n 2, 1) := by decide +kernel
theorem dX7_text_107 : decode cX7_text 107 = .ok (.invokevirtual 212, 3) := by decide +kernel
theorem dX7_text_110 : decode cX7_text 110 = .ok (.ifCond .eq 16, 3) := by decide +kernel
theorem dX7_text_113 : decode cX7_text 113 = .ok (.aload_n 0, 1) := by decide +kernel
theorem dX7_text_114 : decode cX7_text 114 = .ok (.getfield 60, 3) := by decide +kernel
theorem dX7_text_117 : decode cX7_text 117 = .ok (.iload_n 1, 1) := by decide +kernel
theorem dX7_text_118 : decode cX7_text 118 = .ok (.if_icmp .ne 8, 3) := by decide +kernel
theorem dX7_text_121 : decode cX7_text 121 = .ok (.aload_n 0, 1) := by decide +kernel
theorem dX7_text_122 : decode cX7_text 122 = .ok (.iconst (-1), 1) := by decide +kernel
theorem dX7_text_123 : decode cX7_text 123 = .ok (.putfield 60, 3) := by decide +kernel
theorem dX7_text_126 : decode cX7_text 126 = .ok (.aload_n 0, 1) := by decide +kernel
theorem dX7_text_127 : decode cX7_text 127 = .ok (.getfield 119, 3) := by decide +kernel
theorem dX7_text_130 : decode cX7_text 130 = .ok (.ireturn, 1) := by decide +kernel
theorem dX7_fault_0 : decode cX7_fault 0 = .ok (.aload_n 0, 1) := by decide +kernel
theorem dX7_fault_1 : decode cX7_fault 1 = .ok (.iconst 0, 1) := by decide +kernel
theorem dX7_fault_2 : decode cX7_fault 2 = .ok (.putfield 78, 3) := by decide +kernel
theorem dX7_fault_5 : decode cX7_fault 5 = .ok (.aload_n 0, 1) := by decide +kernel
theorem dX7_fault_6 : decode cX7_fault 6 = .ok (.iload_n 1, 1) := by decide +kernel
theorem dX7_fault_7 : decode cX7_fault 7 = .ok (.ifCond .eq 8, 3) := by decide +kernel
theorem dX7_fault_10 : decode cX7_fault 10 = .ok (.iload_n 1, 1) := by decide +kernel
theorem dX7_fault_11 : decode cX7_fault 11 = .ok (.iconst 1, 1) := by decide +kernel
theorem dX7_fault_12 : decode cX7_fault 12 = .ok (.if_icmp .ne 7, 3) := by decide +kernel
theorem dX7_fault_15 : decode cX7_fault 15 = .ok (.iconst 1, 1) := by decide +kernel
theorem dX7_fault_16 : decode cX7_fault 16 = .ok (.goto 4, 3) := by decide +kernel
theorem dX7_fault_19 : decode cX7_fault 19 = .ok (.iconst 0, 1) := by decide +kernel
theorem dX7_fault_20 : decode cX7_fault 20 = .ok (.iconst 1, 1) := by decide +kernel
theorem dX7_fault_21 : decode cX7_fault 21 = .ok (.invokevirtual 208, 3) := by decide +kernel
theorem dX7_fault_24 : decode cX7_fault 24 = .ok (.ifCond .ne 5, 3) := by decide +kernel
theorem dX7_fault_27 : decode cX7_fault 27 = .ok (.iconst 0, 1) := by decide +kernel
theorem dX7_fault_28 : decode cX7_fault 28 = .ok (.ireturn, 1) := by decide +kernel
theorem dX7_fault_29 : decode cX7_fault 29 = .ok (.iload_n 1, 1) := by decide +kernel
theorem dX7_fault_30 : decode cX7_fault 30 = .ok (.ifCond .ne 10, 3) := by decide +kernel
theorem dX7_fault_33 : decode cX7_fault 33 = .ok (.aload_n 0, 1) := by decide +kernel
theorem dX7_fault_34 : decode cX7_fault 34 = .ok (.getfield 119, 3) := by decide +kernel
theorem dX7_fault_37 : decode cX7_fault 37 = .ok (.goto 7, 3) := by decide +kernel
theorem dX7_fault_40 : decode cX7_fault 40 = .ok (.aload_n 0, 1) := by decide +kernel
theorem dX7_fault_41 : decode cX7_fault 41 = .ok (.getfield 13, 3) := by decide +kernel
theorem dX7_fault_44 : decode cX7_fault 44 = .ok (.ireturn, 1) := by decide +kernel
theorem dX7_drop_0 : decode cX7_drop 0 = .ok (.aload_n 0, 1) := by decide +kernel
theorem dX7_drop_1 : decode cX7_drop 1 = .ok (.iconst 0, 1) := by decide +kernel
theorem dX7_drop_2 : decode cX7_drop 2 = .ok (.putfield 78, 3) := by decide +kernel
theorem dX7_drop_5 : decode cX7_drop 5 = .ok (.aload_n 0, 1) := by decide +kernel
theorem dX7_drop_6 : decode cX7_drop 6 = .ok (.iload_n 1, 1) := by decide +kernel
theorem dX7_drop_7 : decode cX7_drop 7 = .ok (.invokestatic 205, 3) := by decide +kernel
theorem dX7_drop_10 : decode cX7_drop 10 = .ok (.iconst 1, 1) := by decide +kernel
theorem dX7_drop_11 : decode cX7_drop 11 = .ok (.invokevirtual 208, 3) := by decide +kernel
theorem dX7_drop_14 : decode cX7_drop 14 = .ok (.ifCond .ne 5, 3) := by decide +kernel
theorem dX7_drop_17 : decode cX7_drop 17 = .ok (.iconst 0, 1) := by decide +kernel
theorem dX7_drop_18 : decode cX7_drop 18 = .ok (.ireturn, 1) := by decide +kernel
theorem dX7_drop_19 : decode cX7_drop 19 = .ok (.aload_n 0, 1) := by decide +kernel
theorem dX7_drop_20 : decode cX7_drop 20 = .ok (.getfield 17, 3) := by decide +kernel
theorem dX7_drop_23 : decode cX7_drop 23 = .ok (.iload_n 1, 1) := by decide +kernel
theorem dX7_drop_24 : decode cX7_drop 24 = .ok (.baload, 1) := by decide +kernel
theorem dX7_drop_25 : decode cX7_drop 25 = .ok (.istore_n 2, 1) := by decide +kernel
theorem dX7_drop_26 : decode cX7_drop 26 = .ok (.aload_n 0, 1) := by decide +kernel
theorem dX7_drop_27 : decode cX7_drop 27 = .ok (.getfield 17, 3) := by decide +kernel
theorem dX7_drop_30 : decode cX7_drop 30 = .ok (.iload_n 1, 1) := by decide +kernel
theorem dX7_drop_31 : decode cX7_drop 31 = .ok (.iconst 0, 1) := by decide +kernel
theorem dX7_drop_32 : decode cX7_drop 32 = .ok (.bastore, 1) := by decide +kernel
theorem dX7_drop_33 : decode cX7_drop 33 = .ok (.aload_n 0, 1) := by decide +kernel
theorem dX7_drop_34 : decode cX7_drop 34 = .ok (.getfield 60, 3) := by decide +kernel
theorem dX7_drop_37 : decode cX7_drop 37 = .ok (.iload_n 1, 1) := by decide +kernel
theorem dX7_drop_38 : decode cX7_drop 38 = .ok (.if_icmp .ne 8, 3) := by decide +kernel
theorem dX7_drop_41 : decode cX7_drop 41 = .ok (.aload_n 0, 1) := by decide +kernel
theorem dX7_drop_42 : decode cX7_drop 42 = .ok (.iconst (-1), 1) := by decide +kernel
theorem dX7_drop_43 : decode cX7_drop 43 = .ok (.putfield 60, 3) := by decide +kernel
theorem dX7_drop_46 : decode cX7_drop 46 = .ok (.iload_n 2, 1) := by decide +kernel
theorem dX7_drop_47 : decode cX7_drop 47 = .ok (.ireturn, 1) := by decide +kernel
theorem dX7_isThere_0 : decode cX7_isThere 0 = .ok (.aload_n 0, 1) := by decide +kernel
theorem dX7_isThere_1 : decode cX7_isThere 1 = .ok (.iconst 0, 1) := by decide +kernel
theorem dX7_isThere_2 : decode cX7_isThere 2 = .ok (.putfield 78, 3) := by decide +kernel
theorem dX7_isThere_5 : decode cX7_isThere 5 = .ok (.aload_n 0, 1) := by decide +kernel
theorem dX7_isThere_6 : decode cX7_isThere 6 = .ok (.iload_n 1, 1) := by decide +kernel
theorem dX7_isThere_7 : decode cX7_isThere 7 = .ok (.invokestatic 205, 3) := by decide +kernel
theorem dX7_isThere_10 : decode cX7_isThere 10 = .ok (.ifCond .eq 16, 3) := by decide +kernel
theorem dX7_isThere_13 : decode cX7_isThere 13 = .ok (.aload_n 0, 1) := by decide +kernel
theorem dX7_isThere_14 : decode cX7_isThere 14 = .ok (.getfield 17, 3) := by decide +kernel
theorem dX7_isThere_17 : decode cX7_isThere 17 = .ok (.iload_n 1, 1) := by decide +kernel
theorem dX7_isThere_18 : decode cX7_isThere 18 = .ok (.baload, 1) := by decide +kernel
theorem dX7_isThere_19 : decode cX7_isThere 19 = .ok (.ifCond .eq 7, 3) := by decide +kernel
theorem dX7_isThere_22 : decode cX7_isThere 22 = .ok (.iconst 1, 1) := by decide +kernel
theorem dX7_isThere_23 : decode cX7_isThere 23 = .ok (.goto 4, 3) := by decide +kernel
theorem dX7_isThere_26 : decode cX7_isThere 26 = .ok (.iconst 0, 1) := by decide +kernel
theorem dX7_isThere_27 : decode cX7_isThere 27 = .ok (.iconst 1, 1) := by decide +kernel
theorem dX7_isThere_28 : decode cX7_isThere 28 = .ok (.invokevirtual 208, 3) := by decide +kernel
theorem dX7_isThere_31 : decode cX7_isThere 31 = .ok (.ireturn, 1) := by decide +kernel
theorem dX7_about_0 : decode cX7_about 0 = .ok (.aload_n 0, 1) := by decide +kernel
theorem dX7_about_1 : decode cX7_about 1 = .ok (.iload_n 1, 1) := by decide +kernel
theorem dX7_about_2 : decode cX7_about 2 = .ok (.invokevirtual 216, 3) := by decide +kernel
theorem dX7_about_5 : decode cX7_about 5 = .ok (.ifCond .eq 25, 3) := by decide +kernel
theorem dX7_about_8 : decode cX7_about 8 = .ok (.aload_n 0, 1) := by decide +kernel
theorem dX7_about_9 : decode cX7_about 9 = .ok (.iload_n 2, 1) := by decide +kernel
theorem dX7_about_10 : decode cX7_about 10 = .ok (.ifCond .lt 12, 3) := by decide +kernel
theorem dX7_about_13 : decode cX7_about 13 = .ok (.iload_n 2, 1) := by decide +kernel
theorem dX7_about_14 : decode cX7_about 14 = .ok (.iconst 3, 1) := by decide +kernel
theorem dX7_about_15 : decode cX7_about 15 = .ok (.if_icmp .gt 7, 3) := by decide +kernel
theorem dX7_about_18 : decode cX7_about 18 = .ok (.iconst 1, 1) := by decide +kernel
theorem dX7_about_19 : decode cX7_about 19 = .ok (.goto 4, 3) := by decide +kernel
theorem dX7_about_22 : decode cX7_about 22 = .ok (.iconst 0, 1) := by decide +kernel
theorem dX7_about_23 : decode cX7_about 23 = .ok (.iconst 1, 1) := by decide +kernel
theorem dX7_about_24 : decode cX7_about 24 = .ok (.invokevirtual 208, 3) := by decide +kernel
theorem dX7_about_27 : decode cX7_about 27 = .ok (.ifCond .ne 5, 3) := by decide +kernel
theorem dX7_about_30 : decode cX7_about 30 = .ok (.iconst 0, 1) := by decide +kernel
theorem dX7_about_31 : decode cX7_about 31 = .ok (.ireturn, 1) := by decide +kernel
theorem dX7_about_32 : decode cX7_about 32 = .ok (.iload_n 2, 1) := by decide +kernel
theorem dX7_about_33 : decode cX7_about 33 = .ok (.ifCond .ne 12, 3) := by decide +kernel
theorem dX7_about_36 : decode cX7_about 36 = .ok (.aload_n 0, 1) := by decide +kernel
theorem dX7_about_37 : decode cX7_about 37 = .ok (.getfield 30, 3) := by decide +kernel
theorem dX7_about_40 : decode cX7_about 40 = .ok (.iload_n 1, 1) := by decide +kernel
theorem dX7_about_41 : decode cX7_about 41 = .ok (.iaload, 1) := by decide +kernel
theorem dX7_about_42 : decode cX7_about 42 = .ok (.goto 37, 3) := by decide +kernel
theorem dX7_about_45 : decode cX7_about 45 = .ok (.iload_n 2, 1) := by decide +kernel
theorem dX7_about_46 : decode cX7_about 46 = .ok (.iconst 1, 1) := by decide +kernel
theorem dX7_about_47 : decode cX7_about 47 = .ok (.if_icmp .ne 12, 3) := by decide +kernel
theorem dX7_about_50 : decode cX7_about 50 = .ok (.aload_n 0, 1) := by decide +kernel
theorem dX7_about_51 : decode cX7_about 51 = .ok (.getfield 24, 3) := by decide +kernel
theorem dX7_about_54 : decode cX7_about 54 = .ok (.iload_n 1, 1) := by decide +kernel
theorem dX7_about_55 : decode cX7_about 55 = .ok (.iaload, 1) := by decide +kernel
theorem dX7_about_56 : decode cX7_about 56 = .ok (.goto 23, 3) := by decide +kernel
theorem dX7_about_59 : decode cX7_about 59 = .ok (.iload_n 2, 1) := by decide +kernel
theorem dX7_about_60 : decode cX7_about 60 = .ok (.iconst 2, 1) := by decide +kernel
theorem dX7_about_61 : decode cX7_about 61 = .ok (.if_icmp .ne 12, 3) := by decide +kernel
theorem dX7_about_64 : decode cX7_about 64 = .ok (.aload_n 0, 1) := by decide +kernel
theorem dX7_about_65 : decode cX7_about 65 = .ok (.getfield 27, 3) := by decide +kernel
theorem dX7_about_68 : decode cX7_about 68 = .ok (.iload_n 1, 1) := by decide +kernel
theorem dX7_about_69 : decode cX7_about 69 = .ok (.iaload, 1) := by decide +kernel
theorem dX7_about_70 : decode cX7_about 70 = .ok (.goto 9, 3) := by decide +kernel
theorem dX7_about_73 : decode cX7_about 73 = .ok (.aload_n 0, 1) := by decide +kernel
theorem dX7_about_74 : decode cX7_about 74 = .ok (.getfield 33, 3) := by decide +kernel
theorem dX7_about_77 : decode cX7_about 77 = .ok (.iload_n 1, 1) := by decide +kernel
theorem dX7_about_78 : decode cX7_about 78 = .ok (.iaload, 1) := by decide +kernel
theorem dX7_about_79 : decode cX7_about 79 = .ok (.ireturn, 1) := by decide +kernel
theorem dX7_isSign_0 : decode cX7_isSign 0 = .ok (.aload_n 0, 1) := by decide +kernel
theorem dX7_isSign_1 : decode cX7_isSign 1 = .ok (.getfield 42, 3) := by decide +kernel
theorem dX7_isSign_4 : decode cX7_isSign 4 = .ok (.sipush 201, 3) := by decide +kernel
theorem dX7_isSign_7 : decode cX7_isSign 7 = .ok (.iload_n 1, 1) := by decide +kernel
theorem dX7_isSign_8 : decode cX7_isSign 8 = .ok (.imul, 1) := by decide +kernel
theorem dX7_isSign_9 : decode cX7_isSign 9 = .ok (.iload_n 2, 1) := by decide +kernel
theorem dX7_isSign_10 : decode cX7_isSign 10 = .ok (.iadd, 1) := by decide +kernel
theorem dX7_isSign_11 : decode cX7_isSign 11 = .ok (.iaload, 1) := by decide +kernel
theorem dX7_isSign_12 : decode cX7_isSign 12 = .ok (.iconst 2, 1) := by decide +kernel
theorem dX7_isSign_13 : decode cX7_isSign 13 = .ok (.if_icmp .ne 34, 3) := by decide +kernel
theorem dX7_isSign_16 : decode cX7_isSign 16 = .ok (.aload_n 0, 1) := by decide +kernel
theorem dX7_isSign_17 : decode cX7_isSign 17 = .ok (.getfield 21, 3) := by decide +kernel
theorem dX7_isSign_20 : decode cX7_isSign 20 = .ok (.sipush 800, 3) := by decide +kernel
theorem dX7_isSign_23 : decode cX7_isSign 23 = .ok (.iload_n 1, 1) := by decide +kernel
theorem dX7_isSign_24 : decode cX7_isSign 24 = .ok (.imul, 1) := by decide +kernel
theorem dX7_isSign_25 : decode cX7_isSign 25 = .ok (.aload_n 0, 1) := by decide +kernel
theorem dX7_isSign_26 : decode cX7_isSign 26 = .ok (.getfield 36, 3) := by decide +kernel
theorem dX7_isSign_29 : decode cX7_isSign 29 = .ok (.sipush 201, 3) := by decide +kernel
theorem dX7_isSign_32 : decode cX7_isSign 32 = .ok (.iload_n 1, 1) := by decide +kernel
theorem dX7_isSign_33 : decode cX7_isSign 33 = .ok (.imul, 1) := by decide +kernel
theorem dX7_isSign_34 : decode cX7_isSign 34 = .ok (.iload_n 2, 1) := by decide +kernel
theorem dX7_isSign_35 : decode cX7_isSign 35 = .ok (.iadd, 1) := by decide +kernel
theorem dX7_isSign_36 : decode cX7_isSign 36 = .ok (.iaload, 1) := by decide +kernel
theorem dX7_isSign_37 : decode cX7_isSign 37 = .ok (.iadd, 1) := by decide +kernel
theorem dX7_isSign_38 : decode cX7_isSign 38 = .ok (.iaload, 1) := by decide +kernel
theorem dX7_isSign_39 : decode cX7_isSign 39 = .ok (.iload_n 3, 1) := by decide +kernel
theorem dX7_isSign_40 : decode cX7_isSign 40 = .ok (.if_icmp .ne 7, 3) := by decide +kernel
theorem dX7_isSign_43 : decode cX7_isSign 43 = .ok (.iconst 1, 1) := by decide +kernel
theorem dX7_isSign_44 : decode cX7_isSign 44 = .ok (.goto 4, 3) := by decide +kernel
theorem dX7_isSign_47 : decode cX7_isSign 47 = .ok (.iconst 0, 1) := by decide +kernel
theorem dX7_isSign_48 : decode cX7_isSign 48 = .ok (.ireturn, 1) := by decide +kernel
theorem dX7_isWork_0 : decode cX7_isWork 0 = .ok (.aload_n 0, 1) := by decide +kernel
theorem dX7_isWork_1 : decode cX7_isWork 1 = .ok (.iload_n 1, 1) := by decide +kernel
theorem dX7_isWork_2 : decode cX7_isWork 2 = .ok (.iload_n 2, 1) := by decide +kernel
theorem dX7_isWork_3 : decode cX7_isWork 3 = .ok (.bipush 43, 2) := by decide +kernel
theorem dX7_isWork_5 : decode cX7_isWork 5 = .ok (.invokevirtual 219, 3) := by decide +kernel
theorem dX7_isWork_8 : decode cX7_isWork 8 = .ok (.ifCond .ne 25, 3) := by decide +kernel
theorem dX7_isWork_11 : decode cX7_isWork 11 = .ok (.aload_n 0, 1) := by decide +kernel
theorem dX7_isWork_12 : decode cX7_isWork 12 = .ok (.iload_n 1, 1) := by decide +kernel
theorem dX7_isWork_13 : decode cX7_isWork 13 = .ok (.iload_n 2, 1) := by decide +kernel
theorem dX7_isWork_14 : decode cX7_isWork 14 = .ok (.bipush 45, 2) := by decide +kernel
theorem dX7_isWork_16 : decode cX7_isWork 16 = .ok (.invokevirtual 219, 3) := by decide +kernel
theorem dX7_isWork_19 : decode cX7_isWork 19 = .ok (.ifCond .ne 14, 3) := by decide +kernel
theorem dX7_isWork_22 : decode cX7_isWork 22 = .ok (.aload_n 0, 1) := by decide +kernel
theorem dX7_isWork_23 : decode cX7_isWork 23 = .ok (.iload_n 1, 1) := by decide +kernel
theorem dX7_isWork_24 : decode cX7_isWork 24 = .ok (.iload_n 2, 1) := by decide +kernel
theorem dX7_isWork_25 : decode cX7_isWork 25 = .ok (.bipush 60, 2) := by decide +kernel
theorem dX7_isWork_27 : decode cX7_isWork 27 = .ok (.invokevirtual 219, 3) := by decide +kernel
theorem dX7_isWork_30 : decode cX7_isWork 30 = .ok (.ifCond .eq 7, 3) := by decide +kernel
theorem dX7_isWork_33 : decode cX7_isWork 33 = .ok (.iconst 1, 1) := by decide +kernel
theorem dX7_isWork_34 : decode cX7_isWork 34 = .ok (.goto 4, 3) := by decide +kernel
theorem dX7_isWork_37 : decode cX7_isWork 37 = .ok (.iconst 0, 1) := by decide +kernel
theorem dX7_isWork_38 : decode cX7_isWork 38 = .ok (.ireturn, 1) := by decide +kernel
theorem dX7_kindOf_0 : decode cX7_kindOf 0 = .ok (.aload_n 0, 1) := by decide +kernel
theorem dX7_kindOf_1 : decode cX7_kindOf 1 = .ok (.iload_n 1, 1) := by decide +kernel
theorem dX7_kindOf_2 : decode cX7_kindOf 2 = .ok (.iload_n 2, 1) := by decide +kernel
theorem dX7_kindOf_3 : decode cX7_kindOf 3 = .ok (.iconst 1, 1) := by decide +kernel
theorem dX7_kindOf_4 : decode cX7_kindOf 4 = .ok (.iadd, 1) := by decide +kernel
theorem dX7_kindOf_5 : decode cX7_kindOf 5 = .ok (.bipush 59, 2) := by decide +kernel
theorem dX7_kindOf_7 : decode cX7_kindOf 7 = .ok (.invokevirtual 219, 3) := by decide +kernel
theorem dX7_kindOf_10 : decode cX7_kindOf 10 = .ok (.ifCond .eq 5, 3) := by decide +kernel
theorem dX7_kindOf_13 : decode cX7_kindOf 13 = .ok (.iconst 0, 1) := by decide +kernel
theorem dX7_kindOf_14 : decode cX7_kindOf 14 = .ok (.ireturn, 1) := by decide +kernel
theorem dX7_kindOf_15 : decode cX7_kindOf 15 = .ok (.aload_n 0, 1) := by decide +kernel
theorem dX7_kindOf_16 : decode cX7_kindOf 16 = .ok (.iload_n 1, 1) := by decide +kernel
theorem dX7_kindOf_17 : decode cX7_kindOf 17 = .ok (.iload_n 2, 1) := by decide +kernel
theorem dX7_kindOf_18 : decode cX7_kindOf 18 = .ok (.bipush 59, 2) := by decide +kernel
theorem dX7_kindOf_20 : decode cX7_kindOf 20 = .ok (.invokevirtual 219, 3) := by decide +kernel
theorem dX7_kindOf_23 : decode cX7_kindOf 23 = .ok (.ifCond .eq 5, 3) := by decide +kernel
theorem dX7_kindOf_26 : decode cX7_kindOf 26 = .ok (.iconst 1, 1) := by decide +kernel
theorem dX7_kindOf_27 : decode cX7_kindOf 27 = .ok (.ireturn, 1) := by decide +kernel
theorem dX7_kindOf_28 : decode cX7_kindOf 28 = .ok (.aload_n 0, 1) := by decide +kernel
theorem dX7_kindOf_29 : decode cX7_kindOf 29 = .ok (.iload_n 1, 1) := by decide +kernel
theorem dX7_kindOf_30 : decode cX7_kindOf 30 = .ok (.iload_n 2, 1) := by decide +kernel
theorem dX7_kindOf_31 : decode cX7_kindOf 31 = .ok (.bipush 123, 2) := by decide +kernel
theorem dX7_kindOf_33 : decode cX7_kindOf 33 = .ok (.invokevirtual 219, 3) := by decide +kernel
theorem dX7_kindOf_36 : decode cX7_kindOf 36 = .ok (.ifCond .eq 5, 3) := by decide +kernel
theorem dX7_kindOf_39 : decode cX7_kindOf 39 = .ok (.iconst 2, 1) := by decide +kernel
theorem dX7_kindOf_40 : decode cX7_kindOf 40 = .ok (.ireturn, 1) := by decide +kernel
theorem dX7_kindOf_41 : decode cX7_kindOf 41 = .ok (.aload_n 0, 1) := by decide +kernel
theorem dX7_kindOf_42 : decode cX7_kindOf 42 = .ok (.iload_n 1, 1) := by decide +kernel
theorem dX7_kindOf_43 : decode cX7_kindOf 43 = .ok (.iload_n 2, 1) := by decide +kernel
theorem dX7_kindOf_44 : decode cX7_kindOf 44 = .ok (.iconst 1, 1) := by decide +kernel
theorem dX7_kindOf_45 : decode cX7_kindOf 45 = .ok (.iadd, 1) := by decide +kernel
theorem dX7_kindOf_46 : decode cX7_kindOf 46 = .ok (.bipush 125, 2) := by decide +kernel
theorem dX7_kindOf_48 : decode cX7_kindOf 48 = .ok (.invokevirtual 219, 3) := by decide +kernel
theorem dX7_kindOf_51 : decode cX7_kindOf 51 = .ok (.ifCond .eq 5, 3) := by decide +kernel
theorem dX7_kindOf_54 : decode cX7_kindOf 54 = .ok (.iconst 3, 1) := by decide +kernel
theorem dX7_kindOf_55 : decode cX7_kindOf 55 = .ok (.ireturn, 1) := by decide +kernel
theorem dX7_kindOf_56 : decode cX7_kindOf 56 = .ok (.aload_n 0, 1) := by decide +kernel
theorem dX7_kindOf_57 : decode cX7_kindOf 57 = .ok (.iload_n 1, 1) := by decide +kernel
theorem dX7_kindOf_58 : decode cX7_kindOf 58 = .ok (.iload_n 2, 1) := by decide +kernel
theorem dX7_kindOf_59 : decode cX7_kindOf 59 = .ok (.bipush 125, 2) := by decide +kernel
theorem dX7_kindOf_61 : decode cX7_kindOf 61 = .ok (.invokevirtual 219, 3) := by decide +kernel
theorem dX7_kindOf_64 : decode cX7_kindOf 64 = .ok (.ifCond .eq 5, 3) := by decide +kernel
theorem dX7_kindOf_67 : decode cX7_kindOf 67 = .ok (.iconst 4, 1) := by decide +kernel
theorem dX7_kindOf_68 : decode cX7_kindOf 68 = .ok (.ireturn, 1) := by decide +kernel
theorem dX7_kindOf_69 : decode cX7_kindOf 69 = .ok (.aload_n 0, 1) := by decide +kernel
theorem dX7_kindOf_70 : decode cX7_kindOf 70 = .ok (.iload_n 1, 1) := by decide +kernel
theorem dX7_kindOf_71 : decode cX7_kindOf 71 = .ok (.iload_n 2, 1) := by decide +kernel
theorem dX7_kindOf_72 : decode cX7_kindOf 72 = .ok (.iconst 1, 1) := by decide +kernel
theorem dX7_kindOf_73 : decode cX7_kindOf 73 = .ok (.iadd, 1) := by decide +kernel
theorem dX7_kindOf_74 : decode cX7_kindOf 74 = .ok (.bipush 123, 2) := by decide +kernel
theorem dX7_kindOf_76 : decode cX7_kindOf 76 = .ok (.invokevirtual 219, 3) := by decide +kernel
theorem dX7_kindOf_79 : decode cX7_kindOf 79 = .ok (.ifCond .eq 5, 3) := by decide +kernel
theorem dX7_kindOf_82 : decode cX7_kindOf 82 = .ok (.iconst 5, 1) := by decide +kernel
theorem dX7_kindOf_83 : decode cX7_kindOf 83 = .ok (.ireturn, 1) := by decide +kernel
theorem dX7_kindOf_84 : decode cX7_kindOf 84 = .ok (.aload_n 0, 1) := by decide +kernel
theorem dX7_kindOf_85 : decode cX7_kindOf 85 = .ok (.iload_n 1, 1) := by decide +kernel
theorem dX7_kindOf_86 : decode cX7_kindOf 86 = .ok (.iload_n 2, 1) := by decide +kernel
theorem dX7_kindOf_87 : decode cX7_kindOf 87 = .ok (.iconst 1, 1) := by decide +kernel
theorem dX7_kindOf_88 : decode cX7_kindOf 88 = .ok (.iadd, 1) := by decide +kernel
theorem dX7_kindOf_89 : decode cX7_kindOf 89 = .ok (.bipush 44, 2) := by decide +kernel
theorem dX7_kindOf_91 : decode cX7_kindOf 91 = .ok (.invokevirtual 219, 3) := by decide +kernel
theorem dX7_kindOf_94 : decode cX7_kindOf 94 = .ok (.ifCond .eq 6, 3) := by decide +kernel
theorem dX7_kindOf_97 : decode cX7_kindOf 97 = .ok (.bipush 6, 2) := by decide +kernel
theorem dX7_kindOf_99 : decode cX7_kindOf 99 = .ok (.ireturn, 1) := by decide +kernel
theorem dX7_kindOf_100 : decode cX7_kindOf 100 = .ok (.aload_n 0, 1) := by decide +kernel
theorem dX7_kindOf_101 : decode cX7_kindOf 101 = .ok (.iload_n 1, 1) := by decide +kernel
theorem dX7_kindOf_102 : decode cX7_kindOf 102 = .ok (.iload_n 2, 1) := by decide +kernel
theorem dX7_kindOf_103 : decode cX7_kindOf 103 = .ok (.bipush 44, 2) := by decide +kernel
theorem dX7_kindOf_105 : decode cX7_kindOf 105 = .ok (.invokevirtual 219, 3) := by decide +kernel
theorem dX7_kindOf_108 : decode cX7_kindOf 108 = .ok (.ifCond .eq 6, 3) := by decide +kernel
theorem dX7_kindOf_111 : decode cX7_kindOf 111 = .ok (.bipush 7, 2) := by decide +kernel
theorem dX7_kindOf_113 : decode cX7_kindOf 113 = .ok (.ireturn, 1) := by decide +kernel
theorem dX7_kindOf_114 : decode cX7_kindOf 114 = .ok (.aload_n 0, 1) := by decide +kernel
theorem dX7_kindOf_115 : decode cX7_kindOf 115 = .ok (.iload_n 1, 1) := by decide +kernel
theorem dX7_kindOf_116 : decode cX7_kindOf 116 = .ok (.iload_n 2, 1) := by decide +kernel
theorem dX7_kindOf_117 : decode cX7_kindOf 117 = .ok (.bipush 40, 2) := by decide +kernel
theorem dX7_kindOf_119 : decode cX7_kindOf 119 = .ok (.invokevirtual 219, 3) := by decide +kernel
theorem dX7_kindOf_122 : decode cX7_kindOf 122 = .ok (.ifCond .eq 6, 3) := by decide +kernel
theorem dX7_kindOf_125 : decode cX7_kindOf 125 = .ok (.bipush 8, 2) := by decide +kernel
theorem dX7_kindOf_127 : decode cX7_kindOf 127 = .ok (.ireturn, 1) := by decide +kernel
theorem dX7_kindOf_128 : decode cX7_kindOf 128 = .ok (.aload_n 0, 1) := by decide +kernel
theorem dX7_kindOf_129 : decode cX7_kindOf 129 = .ok (.iload_n 1, 1) := by decide +kernel
theorem dX7_kindOf_130 : decode cX7_kindOf 130 = .ok (.iload_n 2, 1) := by decide +kernel
theorem dX7_kindOf_131 : decode cX7_kindOf 131 = .ok (.iconst 1, 1) := by decide +kernel
theorem dX7_kindOf_132 : decode cX7_kindOf 132 = .ok (.iadd, 1) := by decide +kernel
theorem dX7_kindOf_133 : decode cX7_kindOf 133 = .ok (.bipush 41, 2) := by decide +kernel
theorem dX7_kindOf_135 : decode cX7_kindOf 135 = .ok (.invokevirtual 219, 3) := by decide +kernel
theorem dX7_kindOf_138 : decode cX7_kindOf 138 = .ok (.ifCond .eq 6, 3) := by decide +kernel
theorem dX7_kindOf_141 : decode cX7_kindOf 141 = .ok (.bipush 9, 2) := by decide +kernel
theorem dX7_kindOf_143 : decode cX7_kindOf 143 = .ok (.ireturn, 1) := by decide +kernel
theorem dX7_kindOf_144 : decode cX7_kindOf 144 = .ok (.aload_n 0, 1) := by decide +kernel
theorem dX7_kindOf_145 : decode cX7_kindOf 145 = .ok (.iload_n 1, 1) := by decide +kernel
theorem dX7_kindOf_146 : decode cX7_kindOf 146 = .ok (.iload_n 2, 1) := by decide +kernel
theorem dX7_kindOf_147 : decode cX7_kindOf 147 = .ok (.iconst 1, 1) := by decide +kernel
theorem dX7_kindOf_148 : decode cX7_kindOf 148 = .ok (.iadd, 1) := by decide +kernel
theorem dX7_kindOf_149 : decode cX7_kindOf 149 = .ok (.bipush 40, 2) := by decide +kernel
theorem dX7_kindOf_151 : decode cX7_kindOf 151 = .ok (.invokevirtual 219, 3) := by decide +kernel
theorem dX7_kindOf_154 : decode cX7_kindOf 154 = .ok (.ifCond .eq 6, 3) := by decide +kernel
theorem dX7_kindOf_157 : decode cX7_kindOf 157 = .ok (.bipush 10, 2) := by decide +kernel
theorem dX7_kindOf_159 : decode cX7_kindOf 159 = .ok (.ireturn, 1) := by decide +kernel
theorem dX7_kindOf_160 : decode cX7_kindOf 160 = .ok (.aload_n 0, 1) := by decide +kernel
theorem dX7_kindOf_161 : decode cX7_kindOf 161 = .ok (.iload_n 1, 1) := by decide +kernel
theorem dX7_kindOf_162 : decode cX7_kindOf 162 = .ok (.iload_n 2, 1) := by decide +kernel
theorem dX7_kindOf_163 : decode cX7_kindOf 163 = .ok (.iconst 1, 1) := by decide +kernel
theorem dX7_kindOf_164 : decode cX7_kindOf 164 = .ok (.iadd, 1) := by decide +kernel
theorem dX7_kindOf_165 : decode cX7_kindOf 165 = .ok (.bipush 61, 2) := by decide +kernel
theorem dX7_kindOf_167 : decode cX7_kindOf 167 = .ok (.invokevirtual 219, 3) := by decide +kernel
theorem dX7_kindOf_170 : decode cX7_kindOf 170 = .ok (.ifCond .eq 6, 3) := by decide +kernel
theorem dX7_kindOf_173 : decode cX7_kindOf 173 = .ok (.bipush 11, 2) := by decide +kernel
theorem dX7_kindOf_175 : decode cX7_kindOf 175 = .ok (.ireturn, 1) := by decide +kernel
theorem dX7_kindOf_176 : decode cX7_kindOf 176 = .ok (.aload_n 0, 1) := by decide +kernel
theorem dX7_kindOf_177 : decode cX7_kindOf 177 = .ok (.iload_n 1, 1) := by decide +kernel
theorem dX7_kindOf_178 : decode cX7_kindOf 178 = .ok (.iload_n 2, 1) := by decide +kernel
theorem dX7_kindOf_179 : decode cX7_kindOf 179 = .ok (.bipush 61, 2) := by decide +kernel
theorem dX7_kindOf_181 : decode cX7_kindOf 181 = .ok (.invokevirtual 219, 3) := by decide +kernel
theorem dX7_kindOf_184 : decode cX7_kindOf 184 = .ok (.ifCond .eq 6, 3) := by decide +kernel
theorem dX7_kindOf_187 : decode cX7_kindOf 187 = .ok (.bipush 12, 2) := by decide +kernel
theorem dX7_kindOf_189 : decode cX7_kindOf 189 = .ok (.ireturn, 1) := by decide +kernel
theorem dX7_kindOf_190 : decode cX7_kindOf 190 = .ok (.aload_n 0, 1) := by decide +kernel
theorem dX7_kindOf_191 : decode cX7_kindOf 191 = .ok (.iload_n 1, 1) := by decide +kernel
theorem dX7_kindOf_192 : decode cX7_kindOf 192 = .ok (.iload_n 2, 1) := by decide +kernel
theorem dX7_kindOf_193 : decode cX7_kindOf 193 = .ok (.iconst 1, 1) := by decide +kernel
theorem dX7_kindOf_194 : decode cX7_kindOf 194 = .ok (.iadd, 1) := by decide +kernel
theorem dX7_kindOf_195 : decode cX7_kindOf 195 = .ok (.invokevirtual 223, 3) := by decide +kernel
theorem dX7_kindOf_198 : decode cX7_kindOf 198 = .ok (.ifCond .eq 6, 3) := by decide +kernel
theorem dX7_kindOf_201 : decode cX7_kindOf 201 = .ok (.bipush 13, 2) := by decide +kernel
theorem dX7_kindOf_203 : decode cX7_kindOf 203 = .ok (.ireturn, 1) := by decide +kernel
theorem dX7_kindOf_204 : decode cX7_kindOf 204 = .ok (.aload_n 0, 1) := by decide +kernel
theorem dX7_kindOf_205 : decode cX7_kindOf 205 = .ok (.iload_n 1, 1) := by decide +kernel
theorem dX7_kindOf_206 : decode cX7_kindOf 206 = .ok (.iload_n 2, 1) := by decide +kernel
theorem dX7_kindOf_207 : decode cX7_kindOf 207 = .ok (.invokevirtual 223, 3) := by decide +kernel
theorem dX7_kindOf_210 : decode cX7_kindOf 210 = .ok (.ifCond .eq 8, 3) := by decide +kernel
theorem dX7_kindOf_213 : decode cX7_kindOf 213 = .ok (.bipush 14, 2) := by decide +kernel
theorem dX7_kindOf_215 : decode cX7_kindOf 215 = .ok (.goto 5, 3) := by decide +kernel
theorem dX7_kindOf_218 : decode cX7_kindOf 218 = .ok (.bipush 15, 2) := by decide +kernel
theorem dX7_kindOf_220 : decode cX7_kindOf 220 = .ok (.ireturn, 1) := by decide +kernel
theorem dX7_choiceOf_0 : decode cX7_choiceOf 0 = .ok (.aload_n 0, 1) := by decide +kernel
theorem dX7_choiceOf_1 : decode cX7_choiceOf 1 = .ok (.getfield 36, 3) := by decide +kernel
theorem dX7_choiceOf_4 : decode cX7_choiceOf 4 = .ok (.sipush 201, 3) := by decide +kernel
theorem dX7_choiceOf_7 : decode cX7_choiceOf 7 = .ok (.iload_n 1, 1) := by decide +kernel
theorem dX7_choiceOf_8 : decode cX7_choiceOf 8 = .ok (.imul, 1) := by decide +kernel
theorem dX7_choiceOf_9 : decode cX7_choiceOf 9 = .ok (.iload_n 2, 1) := by decide +kernel
theorem dX7_choiceOf_10 : decode cX7_choiceOf 10 = .ok (.iadd, 1) := by decide +kernel
theorem dX7_choiceOf_11 : decode cX7_choiceOf 11 = .ok (.iaload, 1) := by decide +kernel
theorem dX7_choiceOf_12 : decode cX7_choiceOf 12 = .ok (.aload_n 0, 1) := by decide +kernel
theorem dX7_choiceOf_13 : decode cX7_choiceOf 13 = .ok (.getfield 39, 3) := by decide +kernel
theorem dX7_choiceOf_16 : decode cX7_choiceOf 16 = .ok (.sipush 201, 3) := by decide +kernel
theorem dX7_choiceOf_19 : decode cX7_choiceOf 19 = .ok (.iload_n 1, 1) := by decide +kernel
theorem dX7_choiceOf_20 : decode cX7_choiceOf 20 = .ok (.imul, 1) := by decide +kernel
theorem dX7_choiceOf_21 : decode cX7_choiceOf 21 = .ok (.iload_n 2, 1) := by decide +kernel
theorem dX7_choiceOf_22 : decode cX7_choiceOf 22 = .ok (.iadd, 1) := by decide +kernel
theorem dX7_choiceOf_23 : decode cX7_choiceOf 23 = .ok (.iaload, 1) := by decide +kernel
theorem dX7_choiceOf_24 : decode cX7_choiceOf 24 = .ok (.iadd, 1) := by decide +kernel
theorem dX7_choiceOf_25 : decode cX7_choiceOf 25 = .ok (.istore_n 3, 1) := by decide +kernel
theorem dX7_choiceOf_26 : decode cX7_choiceOf 26 = .ok (.aload_n 0, 1) := by decide +kernel
theorem dX7_choiceOf_27 : decode cX7_choiceOf 27 = .ok (.getfield 36, 3) := by decide +kernel
theorem dX7_choiceOf_30 : decode cX7_choiceOf 30 = .ok (.sipush 201, 3) := by decide +kernel
theorem dX7_choiceOf_33 : decode cX7_choiceOf 33 = .ok (.iload_n 1, 1) := by decide +kernel
theorem dX7_choiceOf_34 : decode cX7_choiceOf 34 = .ok (.imul, 1) := by decide +kernel
theorem dX7_choiceOf_35 : decode cX7_choiceOf 35 = .ok (.iload_n 2, 1) := by decide +kernel
theorem dX7_choiceOf_36 : decode cX7_choiceOf 36 = .ok (.iadd, 1) := by decide +kernel
theorem dX7_choiceOf_37 : decode cX7_choiceOf 37 = .ok (.iconst 1, 1) := by decide +kernel
theorem dX7_choiceOf_38 : decode cX7_choiceOf 38 = .ok (.iadd, 1) := by decide +kernel
theorem dX7_choiceOf_39 : decode cX7_choiceOf 39 = .ok (.iaload, 1) := by decide +kernel
theorem dX7_choiceOf_40 : decode cX7_choiceOf 40 = .ok (.iload_n 3, 1) := by decide +kernel
theorem dX7_choiceOf_41 : decode cX7_choiceOf 41 = .ok (.isub, 1) := by decide +kernel
theorem dX7_choiceOf_42 : decode cX7_choiceOf 42 = .ok (.istore 4, 2) := by decide +kernel
theorem dX7_choiceOf_44 : decode cX7_choiceOf 44 = .ok (.iload 4, 2) := by decide +kernel
theorem dX7_choiceOf_46 : decode cX7_choiceOf 46 = .ok (.ifCond .ne 5, 3) := by decide +kernel
theorem dX7_choiceOf_49 : decode cX7_choiceOf 49 = .ok (.iconst 0, 1) := by decide +kernel
theorem dX7_choiceOf_50 : decode cX7_choiceOf 50 = .ok (.ireturn, 1) := by decide +kernel
theorem dX7_choiceOf_51 : decode cX7_choiceOf 51 = .ok (.aload_n 0, 1) := by decide +kernel
theorem dX7_choiceOf_52 : decode cX7_choiceOf 52 = .ok (.getfield 21, 3) := by decide +kernel
theorem dX7_choiceOf_55 : decode cX7_choiceOf 55 = .ok (.sipush 800, 3) := by decide +kernel
theorem dX7_choiceOf_58 : decode cX7_choiceOf 58 = .ok (.iload_n 1, 1) := by decide +kernel
theorem dX7_choiceOf_59 : decode cX7_choiceOf 59 = .ok (.imul, 1) := by decide +kernel
theorem dX7_choiceOf_60 : decode cX7_choiceOf 60 = .ok (.iload_n 3, 1) := by decide +kernel
theorem dX7_choiceOf_61 : decode cX7_choiceOf 61 = .ok (.iadd, 1) := by decide +kernel
theorem dX7_choiceOf_62 : decode cX7_choiceOf 62 = .ok (.iaload, 1) := by decide +kernel
theorem dX7_choiceOf_63 : decode cX7_choiceOf 63 = .ok (.istore 5, 2) := by decide +kernel
theorem dX7_choiceOf_65 : decode cX7_choiceOf 65 = .ok (.iload 4, 2) := by decide +kernel
theorem dX7_choiceOf_67 : decode cX7_choiceOf 67 = .ok (.iconst 1, 1) := by decide +kernel
theorem dX7_choiceOf_68 : decode cX7_choiceOf 68 = .ok (.if_icmp .ne 12, 3) := by decide +kernel
theorem dX7_choiceOf_71 : decode cX7_choiceOf 71 = .ok (.iload 5, 2) := by decide +kernel
theorem dX7_choiceOf_73 : decode cX7_choiceOf 73 = .ok (.bipush 32, 2) := by decide +kernel
theorem dX7_choiceOf_75 : decode cX7_choiceOf 75 = .ok (.if_icmp .ne 5, 3) := by decide +kernel
theorem dX7_choiceOf_78 : decode cX7_choiceOf 78 = .ok (.iconst 1, 1) := by decide +kernel
theorem dX7_choiceOf_79 : decode cX7_choiceOf 79 = .ok (.ireturn, 1) := by decide +kernel
theorem dX7_choiceOf_80 : decode cX7_choiceOf 80 = .ok (.iload 5, 2) := by decide +kernel
theorem dX7_choiceOf_82 : decode cX7_choiceOf 82 = .ok (.bipush 10, 2) := by decide +kernel
theorem dX7_choiceOf_84 : decode cX7_choiceOf 84 = .ok (.if_icmp .ne 30, 3) := by decide +kernel
theorem dX7_choiceOf_87 : decode cX7_choiceOf 87 = .ok (.iload 4, 2) := by decide +kernel
theorem dX7_choiceOf_89 : decode cX7_choiceOf 89 = .ok (.iconst 1, 1) := by decide +kernel
theorem dX7_choiceOf_90 : decode cX7_choiceOf 90 = .ok (.iconst 2, 1) := by decide +kernel
theorem dX7_choiceOf_91 : decode cX7_choiceOf 91 = .ok (.aload_n 0, 1) := by decide +kernel
theorem dX7_choiceOf_92 : decode cX7_choiceOf 92 = .ok (.getfield 45, 3) := by decide +kernel
theorem dX7_choiceOf_95 : decode cX7_choiceOf 95 = .ok (.sipush 201, 3) := by decide +kernel
theorem dX7_choiceOf_98 : decode cX7_choiceOf 98 = .ok (.iload_n 1, 1) := by decide +kernel
theorem dX7_choiceOf_99 : decode cX7_choiceOf 99 = .ok (.imul, 1) := by decide +kernel
theorem dX7_choiceOf_100 : decode cX7_choiceOf 100 = .ok (.iload_n 2, 1) := by decide +kernel
theorem dX7_choiceOf_101 : decode cX7_choiceOf 101 = .ok (.iadd, 1) := by decide +kernel
theorem dX7_choiceOf_102 : decode cX7_choiceOf 102 = .ok (.iconst 1, 1) := by decide +kernel
theorem dX7_choiceOf_103 : decode cX7_choiceOf 103 = .ok (.iadd, 1) := by decide +kernel
theorem dX7_choiceOf_104 : decode cX7_choiceOf 104 = .ok (.iaload, 1) := by decide +kernel
theorem dX7_choiceOf_105 : decode cX7_choiceOf 105 = .ok (.imul, 1) := by decide +kernel
theorem dX7_choiceOf_106 : decode cX7_choiceOf 106 = .ok (.iadd, 1) := by decide +kernel
theorem dX7_choiceOf_107 : decode cX7_choiceOf 107 = .ok (.if_icmp .ne 7, 3) := by decide +kernel
theorem dX7_choiceOf_110 : decode cX7_choiceOf 110 = .ok (.iconst 1, 1) := by decide +kernel
theorem dX7_choiceOf_111 : decode cX7_choiceOf 111 = .ok (.goto 4, 3) := by decide +kernel
theorem dX7_choiceOf_114 : decode cX7_choiceOf 114 = .ok (.iconst 0, 1) := by decide +kernel
theorem dX7_choiceOf_115 : decode cX7_choiceOf 115 = .ok (.istore 6, 2) := by decide +kernel
theorem dX7_choiceOf_117 : decode cX7_choiceOf 117 = .ok (.iconst 1, 1) := by decide +kernel
theorem dX7_choiceOf_118 : decode cX7_choiceOf 118 = .ok (.istore 7, 2) := by decide +kernel
theorem dX7_choiceOf_120 : decode cX7_choiceOf 120 = .ok (.iload 7, 2) := by decide +kernel
theorem dX7_choiceOf_122 : decode cX7_choiceOf 122 = .ok (.iload 4, 2) := by decide +kernel
theorem dX7_choiceOf_124 : decode cX7_choiceOf 124 = .ok (.if_icmp .ge 41, 3) := by decide +kernel
theorem dX7_choiceOf_127 : decode cX7_choiceOf 127 = .ok (.iload 6, 2) := by decide +kernel
theorem dX7_choiceOf_129 : decode cX7_choiceOf 129 = .ok (.ifCond .eq 36, 3) := by decide +kernel
theorem dX7_choiceOf_132 : decode cX7_choiceOf 132 = .ok (.aload_n 0, 1) := by decide +kernel
theorem dX7_choiceOf_133 : decode cX7_choiceOf 133 = .ok (.getfield 21, 3) := by decide +kernel
theorem dX7_choiceOf_136 : decode cX7_choiceOf 136 = .ok (.sipush 800, 3) := by decide +kernel
theorem dX7_choiceOf_139 : decode cX7_choiceOf 139 = .ok (.iload_n 1, 1) := by decide +kernel
theorem dX7_choiceOf_140 : decode cX7_choiceOf 140 = .ok (.imul, 1) := by decide +kernel
theorem dX7_choiceOf_141 : decode cX7_choiceOf 141 = .ok (.iload_n 3, 1) := by decide +kernel
theorem dX7_choiceOf_142 : decode cX7_choiceOf 142 = .ok (.iadd, 1) := by decide +kernel
theorem dX7_choiceOf_143 : decode cX7_choiceOf 143 = .ok (.iload 7, 2) := by decide +kernel
theorem dX7_choiceOf_145 : decode cX7_choiceOf 145 = .ok (.iadd, 1) := by decide +kernel
theorem dX7_choiceOf_146 : decode cX7_choiceOf 146 = .ok (.iaload, 1) := by decide +kernel
theorem dX7_choiceOf_147 : decode cX7_choiceOf 147 = .ok (.bipush 32, 2) := by decide +kernel
theorem dX7_choiceOf_149 : decode cX7_choiceOf 149 = .ok (.if_icmp .ne 7, 3) := by decide +kernel
theorem dX7_choiceOf_152 : decode cX7_choiceOf 152 = .ok (.iconst 1, 1) := by decide +kernel
theorem dX7_choiceOf_153 : decode cX7_choiceOf 153 = .ok (.goto 4, 3) := by decide +kernel
theorem dX7_choiceOf_156 : decode cX7_choiceOf 156 = .ok (.iconst 0, 1) := by decide +kernel
theorem dX7_choiceOf_157 : decode cX7_choiceOf 157 = .ok (.istore 6, 2) := by decide +kernel
theorem dX7_choiceOf_159 : decode cX7_choiceOf 159 = .ok (.iinc 7 1, 3) := by decide +kernel
theorem dX7_choiceOf_162 : decode cX7_choiceOf 162 = .ok (.goto (-42), 3) := by decide +kernel
theorem dX7_choiceOf_165 : decode cX7_choiceOf 165 = .ok (.iload 6, 2) := by decide +kernel
theorem dX7_choiceOf_167 : decode cX7_choiceOf 167 = .ok (.ifCond .eq 7, 3) := by decide +kernel
theorem dX7_choiceOf_170 : decode cX7_choiceOf 170 = .ok (.iconst 2, 1) := by decide +kernel
theorem dX7_choiceOf_171 : decode cX7_choiceOf 171 = .ok (.goto 4, 3) := by decide +kernel
theorem dX7_choiceOf_174 : decode cX7_choiceOf 174 = .ok (.iconst 3, 1) := by decide +kernel
theorem dX7_choiceOf_175 : decode cX7_choiceOf 175 = .ok (.ireturn, 1) := by decide +kernel
theorem dX7_testsOf_0 : decode cX7_testsOf 0 = .ok (.aload_n 0, 1) := by decide +kernel
theorem dX7_testsOf_1 : decode cX7_testsOf 1 = .ok (.getfield 45, 3) := by decide +kernel
theorem dX7_testsOf_4 : decode cX7_testsOf 4 = .ok (.sipush 201, 3) := by decide +kernel
theorem dX7_testsOf_7 : decode cX7_testsOf 7 = .ok (.iload_n 1, 1) := by decide +kernel
theorem dX7_testsOf_8 : decode cX7_testsOf 8 = .ok (.imul, 1) := by decide +kernel
theorem dX7_testsOf_9 : decode cX7_testsOf 9 = .ok (.iload_n 2, 1) := by decide +kernel
theorem dX7_testsOf_10 : decode cX7_testsOf 10 = .ok (.iadd, 1) := by decide +kernel
theorem dX7_testsOf_11 : decode cX7_testsOf 11 = .ok (.iconst 1, 1) := by decide +kernel
theorem dX7_testsOf_12 : decode cX7_testsOf 12 = .ok (.iadd, 1) := by decide +kernel
theorem dX7_testsOf_13 : decode cX7_testsOf 13 = .ok (.iaload, 1) := by decide +kernel
theorem dX7_testsOf_14 : decode cX7_testsOf 14 = .ok (.istore_n 3, 1) := by decide +kernel
theorem dX7_testsOf_15 : decode cX7_testsOf 15 = .ok (.iload_n 3, 1) := by decide +kernel
theorem dX7_testsOf_16 : decode cX7_testsOf 16 = .ok (.ifCond .ne 7, 3) := by decide +kernel
theorem dX7_testsOf_19 : decode cX7_testsOf 19 = .ok (.iconst 1, 1) := by decide +kernel
theorem dX7_testsOf_20 : decode cX7_testsOf 20 = .ok (.goto 13, 3) := by decide +kernel
theorem dX7_testsOf_23 : decode cX7_testsOf 23 = .ok (.iload_n 3, 1) := by decide +kernel
theorem dX7_testsOf_24 : decode cX7_testsOf 24 = .ok (.iconst 2, 1) := by decide +kernel
theorem dX7_testsOf_25 : decode cX7_testsOf 25 = .ok (.if_icmp .lt 7, 3) := by decide +kernel
theorem dX7_testsOf_28 : decode cX7_testsOf 28 = .ok (.iconst 2, 1) := by decide +kernel
theorem dX7_testsOf_29 : decode cX7_testsOf 29 = .ok (.goto 4, 3) := by decide +kernel
theorem dX7_testsOf_32 : decode cX7_testsOf 32 = .ok (.iconst 0, 1) := by decide +kernel
theorem dX7_testsOf_33 : decode cX7_testsOf 33 = .ok (.istore 4, 2) := by decide +kernel
theorem dX7_testsOf_35 : decode cX7_testsOf 35 = .ok (.iload 4, 2) := by decide +kernel
theorem dX7_testsOf_37 : decode cX7_testsOf 37 = .ok (.iconst 4, 1) := by decide +kernel
theorem dX7_testsOf_38 : decode cX7_testsOf 38 = .ok (.aload_n 0, 1) := by decide +kernel
theorem dX7_testsOf_39 : decode cX7_testsOf 39 = .ok (.getfield 48, 3) := by decide +kernel
theorem dX7_testsOf_42 : decode cX7_testsOf 42 = .ok (.sipush 201, 3) := by decide +kernel
theorem dX7_testsOf_45 : decode cX7_testsOf 45 = .ok (.iload_n 1, 1) := by decide +kernel
theorem dX7_testsOf_46 : decode cX7_testsOf 46 = .ok (.imul, 1) := by decide +kernel
theorem dX7_testsOf_47 : decode cX7_testsOf 47 = .ok (.iload_n 2, 1) := by decide +kernel
theorem dX7_testsOf_48 : decode cX7_testsOf 48 = .ok (.iadd, 1) := by decide +kernel
theorem dX7_testsOf_49 : decode cX7_testsOf 49 = .ok (.iaload, 1) := by decide +kernel
theorem dX7_testsOf_50 : decode cX7_testsOf 50 = .ok (.ishl, 1) := by decide +kernel
theorem dX7_testsOf_51 : decode cX7_testsOf 51 = .ok (.ior, 1) := by decide +kernel
theorem dX7_testsOf_52 : decode cX7_testsOf 52 = .ok (.bipush 64, 2) := by decide +kernel
theorem dX7_testsOf_54 : decode cX7_testsOf 54 = .ok (.aload_n 0, 1) := by decide +kernel
theorem dX7_testsOf_55 : decode cX7_testsOf 55 = .ok (.getfield 27, 3) := by decide +kernel
theorem dX7_testsOf_58 : decode cX7_testsOf 58 = .ok (.iload_n 1, 1) := by decide +kernel
theorem dX7_testsOf_59 : decode cX7_testsOf 59 = .ok (.iaload, 1) := by decide +kernel
theorem dX7_testsOf_60 : decode cX7_testsOf 60 = .ok (.ishl, 1) := by decide +kernel
theorem dX7_testsOf_61 : decode cX7_testsOf 61 = .ok (.ior, 1) := by decide +kernel
theorem dX7_testsOf_62 : decode cX7_testsOf 62 = .ok (.ireturn, 1) := by decide +kernel
theorem dX7_isPair_0 : decode cX7_isPair 0 = .ok (.aload_n 0, 1) := by decide +kernel
theorem dX7_isPair_1 : decode cX7_isPair 1 = .ok (.getfield 42, 3) := by decide +kernel
theorem dX7_isPair_4 : decode cX7_isPair 4 = .ok (.sipush 201, 3) := by decide +kernel
theorem dX7_isPair_7 : decode cX7_isPair 7 = .ok (.iload_n 1, 1) := by decide +kernel
theorem dX7_isPair_8 : decode cX7_isPair 8 = .ok (.imul, 1) := by decide +kernel
theorem dX7_isPair_9 : decode cX7_isPair 9 = .ok (.iload_n 2, 1) := by decide +kernel
theorem dX7_isPair_10 : decode cX7_isPair 10 = .ok (.iadd, 1) := by decide +kernel
theorem dX7_isPair_11 : decode cX7_isPair 11 = .ok (.iaload, 1) := by decide +kernel
theorem dX7_isPair_12 : decode cX7_isPair 12 = .ok (.iconst 2, 1) := by decide +kernel
theorem dX7_isPair_13 : decode cX7_isPair 13 = .ok (.if_icmp .eq 25, 3) := by decide +kernel
theorem dX7_isPair_16 : decode cX7_isPair 16 = .ok (.aload_n 0, 1) := by decide +kernel
theorem dX7_isPair_17 : decode cX7_isPair 17 = .ok (.getfield 42, 3) := by decide +kernel
theorem dX7_isPair_20 : decode cX7_isPair 20 = .ok (.sipush 201, 3) := by decide +kernel
theorem dX7_isPair_23 : decode cX7_isPair 23 = .ok (.iload_n 1, 1) := by decide +kernel
theorem dX7_isPair_24 : decode cX7_isPair 24 = .ok (.imul, 1) := by decide +kernel
theorem dX7_isPair_25 : decode cX7_isPair 25 = .ok (.iload_n 2, 1) := by decide +kernel
theorem dX7_isPair_26 : decode cX7_isPair 26 = .ok (.iadd, 1) := by decide +kernel
theorem dX7_isPair_27 : decode cX7_isPair 27 = .ok (.iconst 1, 1) := by decide +kernel
theorem dX7_isPair_28 : decode cX7_isPair 28 = .ok (.iadd, 1) := by decide +kernel
theorem dX7_isPair_29 : decode cX7_isPair 29 = .ok (.iaload, 1) := by decide +kernel
theorem dX7_isPair_30 : decode cX7_isPair 30 = .ok (.iconst 2, 1) := by decide +kernel
theorem dX7_isPair_31 : decode cX7_isPair 31 = .ok (.if_icmp .eq 7, 3) := by decide +kernel
theorem dX7_isPair_34 : decode cX7_isPair 34 = .ok (.iconst 1, 1) := by decide +kernel
theorem dX7_isPair_35 : decode cX7_isPair 35 = .ok (.goto 4, 3) := by decide +kernel
theorem dX7_isPair_38 : decode cX7_isPair 38 = .ok (.iconst 0, 1) := by decide +kernel
theorem dX7_isPair_39 : decode cX7_isPair 39 = .ok (.ireturn, 1) := by decide +kernel
theorem dX7_gap_0 : decode cX7_gap 0 = .ok (.aload_n 0, 1) := by decide +kernel
theorem dX7_gap_1 : decode cX7_gap 1 = .ok (.iload_n 1, 1) := by decide +kernel
theorem dX7_gap_2 : decode cX7_gap 2 = .ok (.invokevirtual 216, 3) := by decide +kernel
theorem dX7_gap_5 : decode cX7_gap 5 = .ok (.ifCond .eq 41, 3) := by decide +kernel
theorem dX7_gap_8 : decode cX7_gap 8 = .ok (.aload_n 0, 1) := by decide +kernel
theorem dX7_gap_9 : decode cX7_gap 9 = .ok (.iload_n 2, 1) := by decide +kernel
theorem dX7_gap_10 : decode cX7_gap 10 = .ok (.ifCond .lt 28, 3) := by decide +kernel
theorem dX7_gap_13 : decode cX7_gap 13 = .ok (.iload_n 2, 1) := by decide +kernel
theorem dX7_gap_14 : decode cX7_gap 14 = .ok (.aload_n 0, 1) := by decide +kernel
theorem dX7_gap_15 : decode cX7_gap 15 = .ok (.getfield 30, 3) := by decide +kernel
theorem dX7_gap_18 : decode cX7_gap 18 = .ok (.iload_n 1, 1) := by decide +kernel
theorem dX7_gap_19 : decode cX7_gap 19 = .ok (.iaload, 1) := by decide +kernel
theorem dX7_gap_20 : decode cX7_gap 20 = .ok (.iconst 1, 1) := by decide +kernel
theorem dX7_gap_21 : decode cX7_gap 21 = .ok (.isub, 1) := by decide +kernel
theorem dX7_gap_22 : decode cX7_gap 22 = .ok (.if_icmp .ge 16, 3) := by decide +kernel
theorem dX7_gap_25 : decode cX7_gap 25 = .ok (.iload_n 3, 1) := by decide +kernel
theorem dX7_gap_26 : decode cX7_gap 26 = .ok (.ifCond .lt 12, 3) := by decide +kernel
theorem dX7_gap_29 : decode cX7_gap 29 = .ok (.iload_n 3, 1) := by decide +kernel
theorem dX7_gap_30 : decode cX7_gap 30 = .ok (.iconst 3, 1) := by decide +kernel
theorem dX7_gap_31 : decode cX7_gap 31 = .ok (.if_icmp .gt 7, 3) := by decide +kernel
theorem dX7_gap_34 : decode cX7_gap 34 = .ok (.iconst 1, 1) := by decide +kernel
theorem dX7_gap_35 : decode cX7_gap 35 = .ok (.goto 4, 3) := by decide +kernel
theorem dX7_gap_38 : decode cX7_gap 38 = .ok (.iconst 0, 1) := by decide +kernel
theorem dX7_gap_39 : decode cX7_gap 39 = .ok (.iconst 1, 1) := by decide +kernel
theorem dX7_gap_40 : decode cX7_gap 40 = .ok (.invokevirtual 208, 3) := by decide +kernel
theorem dX7_gap_43 : decode cX7_gap 43 = .ok (.ifCond .ne 5, 3) := by decide +kernel
theorem dX7_gap_46 : decode cX7_gap 46 = .ok (.iconst 0, 1) := by decide +kernel
theorem dX7_gap_47 : decode cX7_gap 47 = .ok (.ireturn, 1) := by decide +kernel
theorem dX7_gap_48 : decode cX7_gap 48 = .ok (.iload_n 3, 1) := by decide +kernel
theorem dX7_gap_49 : decode cX7_gap 49 = .ok (.ifCond .ne 12, 3) := by decide +kernel
theorem dX7_gap_52 : decode cX7_gap 52 = .ok (.aload_n 0, 1) := by decide +kernel
theorem dX7_gap_53 : decode cX7_gap 53 = .ok (.iload_n 1, 1) := by decide +kernel
theorem dX7_gap_54 : decode cX7_gap 54 = .ok (.iload_n 2, 1) := by decide +kernel
theorem dX7_gap_55 : decode cX7_gap 55 = .ok (.invokevirtual 226, 3) := by decide +kernel
theorem dX7_gap_58 : decode cX7_gap 58 = .ok (.goto 45, 3) := by decide +kernel
theorem dX7_gap_61 : decode cX7_gap 61 = .ok (.iload_n 3, 1) := by decide +kernel
theorem dX7_gap_62 : decode cX7_gap 62 = .ok (.iconst 1, 1) := by decide +kernel
theorem dX7_gap_63 : decode cX7_gap 63 = .ok (.if_icmp .ne 12, 3) := by decide +kernel
theorem dX7_gap_66 : decode cX7_gap 66 = .ok (.aload_n 0, 1) := by decide +kernel
theorem dX7_gap_67 : decode cX7_gap 67 = .ok (.iload_n 1, 1) := by decide +kernel
theorem dX7_gap_68 : decode cX7_gap 68 = .ok (.iload_n 2, 1) := by decide +kernel
theorem dX7_gap_69 : decode cX7_gap 69 = .ok (.invokevirtual 229, 3) := by decide +kernel
theorem dX7_gap_72 : decode cX7_gap 72 = .ok (.goto 31, 3) := by decide +kernel
theorem dX7_gap_75 : decode cX7_gap 75 = .ok (.iload_n 3, 1) := by decide +kernel
theorem dX7_gap_76 : decode cX7_gap 76 = .ok (.iconst 2, 1) := by decide +kernel
theorem dX7_gap_77 : decode cX7_gap 77 = .ok (.if_icmp .ne 20, 3) := by decide +kernel
theorem dX7_gap_80 : decode cX7_gap 80 = .ok (.aload_n 0, 1) := by decide +kernel
theorem dX7_gap_81 : decode cX7_gap 81 = .ok (.getfield 45, 3) := by decide +kernel
theorem dX7_gap_84 : decode cX7_gap 84 = .ok (.sipush 201, 3) := by decide +kernel
theorem dX7_gap_87 : decode cX7_gap 87 = .ok (.iload_n 1, 1) := by decide +kernel
theorem dX7_gap_88 : decode cX7_gap 88 = .ok (.imul, 1) := by decide +kernel
theorem dX7_gap_89 : decode cX7_gap 89 = .ok (.iload_n 2, 1) := by decide +kernel
theorem dX7_gap_90 : decode cX7_gap 90 = .ok (.iadd, 1) := by decide +kernel
theorem dX7_gap_91 : decode cX7_gap 91 = .ok (.iconst 1, 1) := by decide +kernel
theorem dX7_gap_92 : decode cX7_gap 92 = .ok (.iadd, 1) := by decide +kernel
theorem dX7_gap_93 : decode cX7_gap 93 = .ok (.iaload, 1) := by decide +kernel
theorem dX7_gap_94 : decode cX7_gap 94 = .ok (.goto 9, 3) := by decide +kernel
theorem dX7_gap_97 : decode cX7_gap 97 = .ok (.aload_n 0, 1) := by decide +kernel
theorem dX7_gap_98 : decode cX7_gap 98 = .ok (.iload_n 1, 1) := by decide +kernel
theorem dX7_gap_99 : decode cX7_gap 99 = .ok (.iload_n 2, 1) := by decide +kernel
theorem dX7_gap_100 : decode cX7_gap 100 = .ok (.invokevirtual 232, 3) := by decide +kernel
theorem dX7_gap_103 : decode cX7_gap 103 = .ok (.ireturn, 1) := by decide +kernel
theorem dX7_seen_0 : decode cX7_seen 0 = .ok (.aload_n 0, 1) := by decide +kernel
theorem dX7_seen_1 : decode cX7_seen 1 = .ok (.iconst 0, 1) := by decide +kernel
theorem dX7_seen_2 : decode cX7_seen 2 = .ok (.putfield 78, 3) := by decide +kernel
theorem dX7_seen_5 : decode cX7_seen 5 = .ok (.aload_n 0, 1) := by decide +kernel
theorem dX7_seen_6 : decode cX7_seen 6 = .ok (.iload_n 1, 1) := by decide +kernel
theorem dX7_seen_7 : decode cX7_seen 7 = .ok (.ifCond .lt 23, 3) := by decide +kernel
theorem dX7_seen_10 : decode cX7_seen 10 = .ok (.iload_n 1, 1) := by decide +kernel
theorem dX7_seen_11 : decode cX7_seen 11 = .ok (.bipush 15, 2) := by decide +kernel
theorem dX7_seen_13 : decode cX7_seen 13 = .ok (.if_icmp .gt 17, 3) := by decide +kernel
theorem dX7_seen_16 : decode cX7_seen 16 = .ok (.iload_n 2, 1) := by decide +kernel
theorem dX7_seen_17 : decode cX7_seen 17 = .ok (.iconst (-1), 1) := by decide +kernel
theorem dX7_seen_18 : decode cX7_seen 18 = .ok (.if_icmp .lt 12, 3) := by decide +kernel
theorem dX7_seen_21 : decode cX7_seen 21 = .ok (.iload_n 2, 1) := by decide +kernel
theorem dX7_seen_22 : decode cX7_seen 22 = .ok (.iconst 3, 1) := by decide +kernel
theorem dX7_seen_23 : decode cX7_seen 23 = .ok (.if_icmp .gt 7, 3) := by decide +kernel
theorem dX7_seen_26 : decode cX7_seen 26 = .ok (.iconst 1, 1) := by decide +kernel
theorem dX7_seen_27 : decode cX7_seen 27 = .ok (.goto 4, 3) := by decide +kernel
theorem dX7_seen_30 : decode cX7_seen 30 = .ok (.iconst 0, 1) := by decide +kernel
theorem dX7_seen_31 : decode cX7_seen 31 = .ok (.iconst 1, 1) := by decide +kernel
theorem dX7_seen_32 : decode cX7_seen 32 = .ok (.invokevirtual 208, 3) := by decide +kernel
theorem dX7_seen_35 : decode cX7_seen 35 = .ok (.ifCond .ne 5, 3) := by decide +kernel
theorem dX7_seen_38 : decode cX7_seen 38 = .ok (.iconst 0, 1) := by decide +kernel
theorem dX7_seen_39 : decode cX7_seen 39 = .ok (.ireturn, 1) := by decide +kernel
theorem dX7_seen_40 : decode cX7_seen 40 = .ok (.iconst 0, 1) := by decide +kernel
theorem dX7_seen_41 : decode cX7_seen 41 = .ok (.istore_n 3, 1) := by decide +kernel
theorem dX7_seen_42 : decode cX7_seen 42 = .ok (.iconst 0, 1) := by decide +kernel
theorem dX7_seen_43 : decode cX7_seen 43 = .ok (.istore 4, 2) := by decide +kernel
theorem dX7_seen_45 : decode cX7_seen 45 = .ok (.iload 4, 2) := by decide +kernel
theorem dX7_seen_47 : decode cX7_seen 47 = .ok (.bipush 12, 2) := by decide +kernel
theorem dX7_seen_49 : decode cX7_seen 49 = .ok (.if_icmp .ge 74, 3) := by decide +kernel
theorem dX7_seen_52 : decode cX7_seen 52 = .ok (.iconst 0, 1) := by decide +kernel
theorem dX7_seen_53 : decode cX7_seen 53 = .ok (.istore 5, 2) := by decide +kernel
theorem dX7_seen_55 : decode cX7_seen 55 = .ok (.aload_n 0, 1) := by decide +kernel
theorem dX7_seen_56 : decode cX7_seen 56 = .ok (.getfield 17, 3) := by decide +kernel
theorem dX7_seen_59 : decode cX7_seen 59 = .ok (.iload 4, 2) := by decide +kernel
theorem dX7_seen_61 : decode cX7_seen 61 = .ok (.baload, 1) := by decide +kernel
theorem dX7_seen_62 : decode cX7_seen 62 = .ok (.ifCond .eq 55, 3) := by decide +kernel
theorem dX7_seen_65 : decode cX7_seen 65 = .ok (.iload 5, 2) := by decide +kernel
theorem dX7_seen_67 : decode cX7_seen 67 = .ok (.aload_n 0, 1) := by decide +kernel
theorem dX7_seen_68 : decode cX7_seen 68 = .ok (.getfield 30, 3) := by decide +kernel
theorem dX7_seen_71 : decode cX7_seen 71 = .ok (.iload 4, 2) := by decide +kernel
theorem dX7_seen_73 : decode cX7_seen 73 = .ok (.iaload, 1) := by decide +kernel
theorem dX7_seen_74 : decode cX7_seen 74 = .ok (.iconst 1, 1) := by decide +kernel
theorem dX7_seen_75 : decode cX7_seen 75 = .ok (.isub, 1) := by decide +kernel
theorem dX7_seen_76 : decode cX7_seen 76 = .ok (.if_icmp .ge 41, 3) := by decide +kernel
theorem dX7_seen_79 : decode cX7_seen 79 = .ok (.aload_n 0, 1) := by decide +kernel
theorem dX7_seen_80 : decode cX7_seen 80 = .ok (.iload 4, 2) := by decide +kernel
theorem dX7_seen_82 : decode cX7_seen 82 = .ok (.iload 5, 2) := by decide +kernel
theorem dX7_seen_84 : decode cX7_seen 84 = .ok (.invokevirtual 226, 3) := by decide +kernel
theorem dX7_seen_87 : decode cX7_seen 87 = .ok (.iload_n 1, 1) := by decide +kernel
theorem dX7_seen_88 : decode cX7_seen 88 = .ok (.if_icmp .ne 23, 3) := by decide +kernel
theorem dX7_seen_91 : decode cX7_seen 91 = .ok (.iload_n 2, 1) := by decide +kernel
theorem dX7_seen_92 : decode cX7_seen 92 = .ok (.iconst (-1), 1) := by decide +kernel
theorem dX7_seen_93 : decode cX7_seen 93 = .ok (.if_icmp .eq 15, 3) := by decide +kernel
theorem dX7_seen_96 : decode cX7_seen 96 = .ok (.aload_n 0, 1) := by decide +kernel
theorem dX7_seen_97 : decode cX7_seen 97 = .ok (.iload 4, 2) := by decide +kernel
theorem dX7_seen_99 : decode cX7_seen 99 = .ok (.iload 5, 2) := by decide +kernel
theorem dX7_seen_101 : decode cX7_seen 101 = .ok (.invokevirtual 229, 3) := by decide +kernel
theorem dX7_seen_104 : decode cX7_seen 104 = .ok (.iload_n 2, 1) := by decide +kernel
theorem dX7_seen_105 : decode cX7_seen 105 = .ok (.if_icmp .ne 6, 3) := by decide +kernel
theorem dX7_seen_108 : decode cX7_seen 108 = .ok (.iinc 3 1, 3) := by decide +kernel
theorem dX7_seen_111 : decode cX7_seen 111 = .ok (.iinc 5 1, 3) := by decide +kernel
theorem dX7_seen_114 : decode cX7_seen 114 = .ok (.goto (-59), 3) := by decide +kernel
theorem dX7_seen_117 : decode cX7_seen 117 = .ok (.iinc 4 1, 3) := by decide +kernel
theorem dX7_seen_120 : decode cX7_seen 120 = .ok (.goto (-75), 3) := by decide +kernel
