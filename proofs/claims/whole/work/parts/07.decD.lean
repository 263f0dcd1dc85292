theorem dX7_seen_123 : decode cX7_seen 123 = .ok (.iload_n 3, 1) := by decide +kernel
theorem dX7_seen_124 : decode cX7_seen 124 = .ok (.ireturn, 1) := by decide +kernel
theorem dX7_price_0 : decode cX7_price 0 = .ok (.aload_n 0, 1) := by decide +kernel
theorem dX7_price_1 : decode cX7_price 1 = .ok (.iconst 0, 1) := by decide +kernel
theorem dX7_price_2 : decode cX7_price 2 = .ok (.putfield 78, 3) := by decide +kernel
theorem dX7_price_5 : decode cX7_price 5 = .ok (.aload_n 0, 1) := by decide +kernel
theorem dX7_price_6 : decode cX7_price 6 = .ok (.iload_n 1, 1) := by decide +kernel
theorem dX7_price_7 : decode cX7_price 7 = .ok (.ifCond .lt 22, 3) := by decide +kernel
theorem dX7_price_10 : decode cX7_price 10 = .ok (.iload_n 1, 1) := by decide +kernel
theorem dX7_price_11 : decode cX7_price 11 = .ok (.iconst 1, 1) := by decide +kernel
theorem dX7_price_12 : decode cX7_price 12 = .ok (.if_icmp .gt 17, 3) := by decide +kernel
theorem dX7_price_15 : decode cX7_price 15 = .ok (.iload_n 2, 1) := by decide +kernel
theorem dX7_price_16 : decode cX7_price 16 = .ok (.ifCond .lt 13, 3) := by decide +kernel
theorem dX7_price_19 : decode cX7_price 19 = .ok (.iload_n 2, 1) := by decide +kernel
theorem dX7_price_20 : decode cX7_price 20 = .ok (.bipush 100, 2) := by decide +kernel
theorem dX7_price_22 : decode cX7_price 22 = .ok (.if_icmp .gt 7, 3) := by decide +kernel
theorem dX7_price_25 : decode cX7_price 25 = .ok (.iconst 1, 1) := by decide +kernel
theorem dX7_price_26 : decode cX7_price 26 = .ok (.goto 4, 3) := by decide +kernel
theorem dX7_price_29 : decode cX7_price 29 = .ok (.iconst 0, 1) := by decide +kernel
theorem dX7_price_30 : decode cX7_price 30 = .ok (.iconst 1, 1) := by decide +kernel
theorem dX7_price_31 : decode cX7_price 31 = .ok (.invokevirtual 208, 3) := by decide +kernel
theorem dX7_price_34 : decode cX7_price 34 = .ok (.ifCond .ne 5, 3) := by decide +kernel
theorem dX7_price_37 : decode cX7_price 37 = .ok (.iconst 0, 1) := by decide +kernel
theorem dX7_price_38 : decode cX7_price 38 = .ok (.ireturn, 1) := by decide +kernel
theorem dX7_price_39 : decode cX7_price 39 = .ok (.aload_n 0, 1) := by decide +kernel
theorem dX7_price_40 : decode cX7_price 40 = .ok (.getfield 51, 3) := by decide +kernel
theorem dX7_price_43 : decode cX7_price 43 = .ok (.iload_n 1, 1) := by decide +kernel
theorem dX7_price_44 : decode cX7_price 44 = .ok (.iaload, 1) := by decide +kernel
theorem dX7_price_45 : decode cX7_price 45 = .ok (.istore_n 3, 1) := by decide +kernel
theorem dX7_price_46 : decode cX7_price 46 = .ok (.aload_n 0, 1) := by decide +kernel
theorem dX7_price_47 : decode cX7_price 47 = .ok (.getfield 51, 3) := by decide +kernel
theorem dX7_price_50 : decode cX7_price 50 = .ok (.iload_n 1, 1) := by decide +kernel
theorem dX7_price_51 : decode cX7_price 51 = .ok (.iload_n 2, 1) := by decide +kernel
theorem dX7_price_52 : decode cX7_price 52 = .ok (.iastore, 1) := by decide +kernel
theorem dX7_price_53 : decode cX7_price 53 = .ok (.iload_n 3, 1) := by decide +kernel
theorem dX7_price_54 : decode cX7_price 54 = .ok (.ireturn, 1) := by decide +kernel
theorem dX7_gathers_0 : decode cX7_gathers 0 = .ok (.aload_n 0, 1) := by decide +kernel
theorem dX7_gathers_1 : decode cX7_gathers 1 = .ok (.iconst 0, 1) := by decide +kernel
theorem dX7_gathers_2 : decode cX7_gathers 2 = .ok (.putfield 235, 3) := by decide +kernel
theorem dX7_gathers_5 : decode cX7_gathers 5 = .ok (.iconst 0, 1) := by decide +kernel
theorem dX7_gathers_6 : decode cX7_gathers 6 = .ok (.istore_n 2, 1) := by decide +kernel
theorem dX7_gathers_7 : decode cX7_gathers 7 = .ok (.iload_n 2, 1) := by decide +kernel
theorem dX7_gathers_8 : decode cX7_gathers 8 = .ok (.bipush 12, 2) := by decide +kernel
theorem dX7_gathers_10 : decode cX7_gathers 10 = .ok (.if_icmp .ge 202, 3) := by decide +kernel
theorem dX7_gathers_13 : decode cX7_gathers 13 = .ok (.iconst 0, 1) := by decide +kernel
theorem dX7_gathers_14 : decode cX7_gathers 14 = .ok (.istore_n 3, 1) := by decide +kernel
theorem dX7_gathers_15 : decode cX7_gathers 15 = .ok (.aload_n 0, 1) := by decide +kernel
theorem dX7_gathers_16 : decode cX7_gathers 16 = .ok (.getfield 17, 3) := by decide +kernel
theorem dX7_gathers_19 : decode cX7_gathers 19 = .ok (.iload_n 2, 1) := by decide +kernel
theorem dX7_gathers_20 : decode cX7_gathers 20 = .ok (.baload, 1) := by decide +kernel
theorem dX7_gathers_21 : decode cX7_gathers 21 = .ok (.ifCond .eq 185, 3) := by decide +kernel
theorem dX7_gathers_24 : decode cX7_gathers 24 = .ok (.iload_n 3, 1) := by decide +kernel
theorem dX7_gathers_25 : decode cX7_gathers 25 = .ok (.aload_n 0, 1) := by decide +kernel
theorem dX7_gathers_26 : decode cX7_gathers 26 = .ok (.getfield 30, 3) := by decide +kernel
theorem dX7_gathers_29 : decode cX7_gathers 29 = .ok (.iload_n 2, 1) := by decide +kernel
theorem dX7_gathers_30 : decode cX7_gathers 30 = .ok (.iaload, 1) := by decide +kernel
theorem dX7_gathers_31 : decode cX7_gathers 31 = .ok (.iconst 1, 1) := by decide +kernel
theorem dX7_gathers_32 : decode cX7_gathers 32 = .ok (.isub, 1) := by decide +kernel
theorem dX7_gathers_33 : decode cX7_gathers 33 = .ok (.if_icmp .ge 173, 3) := by decide +kernel
theorem dX7_gathers_36 : decode cX7_gathers 36 = .ok (.aload_n 0, 1) := by decide +kernel
theorem dX7_gathers_37 : decode cX7_gathers 37 = .ok (.iload_n 2, 1) := by decide +kernel
theorem dX7_gathers_38 : decode cX7_gathers 38 = .ok (.iload_n 3, 1) := by decide +kernel
theorem dX7_gathers_39 : decode cX7_gathers 39 = .ok (.invokevirtual 226, 3) := by decide +kernel
theorem dX7_gathers_42 : decode cX7_gathers 42 = .ok (.iload_n 1, 1) := by decide +kernel
theorem dX7_gathers_43 : decode cX7_gathers 43 = .ok (.if_icmp .eq 6, 3) := by decide +kernel
theorem dX7_gathers_46 : decode cX7_gathers 46 = .ok (.goto 154, 3) := by decide +kernel
theorem dX7_gathers_49 : decode cX7_gathers 49 = .ok (.aload_n 0, 1) := by decide +kernel
theorem dX7_gathers_50 : decode cX7_gathers 50 = .ok (.iload_n 2, 1) := by decide +kernel
theorem dX7_gathers_51 : decode cX7_gathers 51 = .ok (.iload_n 3, 1) := by decide +kernel
theorem dX7_gathers_52 : decode cX7_gathers 52 = .ok (.invokevirtual 232, 3) := by decide +kernel
theorem dX7_gathers_55 : decode cX7_gathers 55 = .ok (.istore 4, 2) := by decide +kernel
theorem dX7_gathers_57 : decode cX7_gathers 57 = .ok (.aload_n 0, 1) := by decide +kernel
theorem dX7_gathers_58 : decode cX7_gathers 58 = .ok (.iload_n 2, 1) := by decide +kernel
theorem dX7_gathers_59 : decode cX7_gathers 59 = .ok (.iload_n 3, 1) := by decide +kernel
theorem dX7_gathers_60 : decode cX7_gathers 60 = .ok (.invokevirtual 238, 3) := by decide +kernel
theorem dX7_gathers_63 : decode cX7_gathers 63 = .ok (.ifCond .eq 7, 3) := by decide +kernel
theorem dX7_gathers_66 : decode cX7_gathers 66 = .ok (.iconst 1, 1) := by decide +kernel
theorem dX7_gathers_67 : decode cX7_gathers 67 = .ok (.goto 4, 3) := by decide +kernel
theorem dX7_gathers_70 : decode cX7_gathers 70 = .ok (.iconst 0, 1) := by decide +kernel
theorem dX7_gathers_71 : decode cX7_gathers 71 = .ok (.istore 5, 2) := by decide +kernel
theorem dX7_gathers_73 : decode cX7_gathers 73 = .ok (.iconst 0, 1) := by decide +kernel
theorem dX7_gathers_74 : decode cX7_gathers 74 = .ok (.istore 6, 2) := by decide +kernel
theorem dX7_gathers_76 : decode cX7_gathers 76 = .ok (.iload 6, 2) := by decide +kernel
theorem dX7_gathers_78 : decode cX7_gathers 78 = .ok (.aload_n 0, 1) := by decide +kernel
theorem dX7_gathers_79 : decode cX7_gathers 79 = .ok (.getfield 235, 3) := by decide +kernel
theorem dX7_gathers_82 : decode cX7_gathers 82 = .ok (.if_icmp .ge 33, 3) := by decide +kernel
theorem dX7_gathers_85 : decode cX7_gathers 85 = .ok (.aload_n 0, 1) := by decide +kernel
theorem dX7_gathers_86 : decode cX7_gathers 86 = .ok (.getfield 63, 3) := by decide +kernel
theorem dX7_gathers_89 : decode cX7_gathers 89 = .ok (.iload 6, 2) := by decide +kernel
theorem dX7_gathers_91 : decode cX7_gathers 91 = .ok (.iaload, 1) := by decide +kernel
theorem dX7_gathers_92 : decode cX7_gathers 92 = .ok (.iload 4, 2) := by decide +kernel
theorem dX7_gathers_94 : decode cX7_gathers 94 = .ok (.if_icmp .ne 15, 3) := by decide +kernel
theorem dX7_gathers_97 : decode cX7_gathers 97 = .ok (.aload_n 0, 1) := by decide +kernel
theorem dX7_gathers_98 : decode cX7_gathers 98 = .ok (.getfield 66, 3) := by decide +kernel
theorem dX7_gathers_101 : decode cX7_gathers 101 = .ok (.iload 6, 2) := by decide +kernel
theorem dX7_gathers_103 : decode cX7_gathers 103 = .ok (.iaload, 1) := by decide +kernel
theorem dX7_gathers_104 : decode cX7_gathers 104 = .ok (.iload 5, 2) := by decide +kernel
theorem dX7_gathers_106 : decode cX7_gathers 106 = .ok (.if_icmp .eq 9, 3) := by decide +kernel
theorem dX7_gathers_109 : decode cX7_gathers 109 = .ok (.iinc 6 1, 3) := by decide +kernel
theorem dX7_gathers_112 : decode cX7_gathers 112 = .ok (.goto (-36), 3) := by decide +kernel
theorem dX7_gathers_115 : decode cX7_gathers 115 = .ok (.iload 6, 2) := by decide +kernel
theorem dX7_gathers_117 : decode cX7_gathers 117 = .ok (.aload_n 0, 1) := by decide +kernel
theorem dX7_gathers_118 : decode cX7_gathers 118 = .ok (.getfield 235, 3) := by decide +kernel
theorem dX7_gathers_121 : decode cX7_gathers 121 = .ok (.if_icmp .ne 59, 3) := by decide +kernel
theorem dX7_gathers_124 : decode cX7_gathers 124 = .ok (.aload_n 0, 1) := by decide +kernel
theorem dX7_gathers_125 : decode cX7_gathers 125 = .ok (.getfield 63, 3) := by decide +kernel
theorem dX7_gathers_128 : decode cX7_gathers 128 = .ok (.iload 6, 2) := by decide +kernel
theorem dX7_gathers_130 : decode cX7_gathers 130 = .ok (.iload 4, 2) := by decide +kernel
theorem dX7_gathers_132 : decode cX7_gathers 132 = .ok (.iastore, 1) := by decide +kernel
theorem dX7_gathers_133 : decode cX7_gathers 133 = .ok (.aload_n 0, 1) := by decide +kernel
theorem dX7_gathers_134 : decode cX7_gathers 134 = .ok (.getfield 66, 3) := by decide +kernel
theorem dX7_gathers_137 : decode cX7_gathers 137 = .ok (.iload 6, 2) := by decide +kernel
theorem dX7_gathers_139 : decode cX7_gathers 139 = .ok (.iload 5, 2) := by decide +kernel
theorem dX7_gathers_141 : decode cX7_gathers 141 = .ok (.iastore, 1) := by decide +kernel
theorem dX7_gathers_142 : decode cX7_gathers 142 = .ok (.iconst 0, 1) := by decide +kernel
theorem dX7_gathers_143 : decode cX7_gathers 143 = .ok (.istore 7, 2) := by decide +kernel
theorem dX7_gathers_145 : decode cX7_gathers 145 = .ok (.iload 7, 2) := by decide +kernel
theorem dX7_gathers_147 : decode cX7_gathers 147 = .ok (.iconst 4, 1) := by decide +kernel
theorem dX7_gathers_148 : decode cX7_gathers 148 = .ok (.if_icmp .ge 22, 3) := by decide +kernel
theorem dX7_gathers_151 : decode cX7_gathers 151 = .ok (.aload_n 0, 1) := by decide +kernel
theorem dX7_gathers_152 : decode cX7_gathers 152 = .ok (.getfield 69, 3) := by decide +kernel
theorem dX7_gathers_155 : decode cX7_gathers 155 = .ok (.iconst 4, 1) := by decide +kernel
theorem dX7_gathers_156 : decode cX7_gathers 156 = .ok (.iload 6, 2) := by decide +kernel
theorem dX7_gathers_158 : decode cX7_gathers 158 = .ok (.imul, 1) := by decide +kernel
theorem dX7_gathers_159 : decode cX7_gathers 159 = .ok (.iload 7, 2) := by decide +kernel
theorem dX7_gathers_161 : decode cX7_gathers 161 = .ok (.iadd, 1) := by decide +kernel
theorem dX7_gathers_162 : decode cX7_gathers 162 = .ok (.iconst 0, 1) := by decide +kernel
theorem dX7_gathers_163 : decode cX7_gathers 163 = .ok (.iastore, 1) := by decide +kernel
theorem dX7_gathers_164 : decode cX7_gathers 164 = .ok (.iinc 7 1, 3) := by decide +kernel
theorem dX7_gathers_167 : decode cX7_gathers 167 = .ok (.goto (-22), 3) := by decide +kernel
theorem dX7_gathers_170 : decode cX7_gathers 170 = .ok (.aload_n 0, 1) := by decide +kernel
theorem dX7_gathers_171 : decode cX7_gathers 171 = .ok (.dup, 1) := by decide +kernel
theorem dX7_gathers_172 : decode cX7_gathers 172 = .ok (.getfield 235, 3) := by decide +kernel
theorem dX7_gathers_175 : decode cX7_gathers 175 = .ok (.iconst 1, 1) := by decide +kernel
theorem dX7_gathers_176 : decode cX7_gathers 176 = .ok (.iadd, 1) := by decide +kernel
theorem dX7_gathers_177 : decode cX7_gathers 177 = .ok (.putfield 235, 3) := by decide +kernel
theorem dX7_gathers_180 : decode cX7_gathers 180 = .ok (.aload_n 0, 1) := by decide +kernel
theorem dX7_gathers_181 : decode cX7_gathers 181 = .ok (.getfield 69, 3) := by decide +kernel
theorem dX7_gathers_184 : decode cX7_gathers 184 = .ok (.iconst 4, 1) := by decide +kernel
theorem dX7_gathers_185 : decode cX7_gathers 185 = .ok (.iload 6, 2) := by decide +kernel
theorem dX7_gathers_187 : decode cX7_gathers 187 = .ok (.imul, 1) := by decide +kernel
theorem dX7_gathers_188 : decode cX7_gathers 188 = .ok (.aload_n 0, 1) := by decide +kernel
theorem dX7_gathers_189 : decode cX7_gathers 189 = .ok (.iload_n 2, 1) := by decide +kernel
theorem dX7_gathers_190 : decode cX7_gathers 190 = .ok (.iload_n 3, 1) := by decide +kernel
theorem dX7_gathers_191 : decode cX7_gathers 191 = .ok (.invokevirtual 229, 3) := by decide +kernel
theorem dX7_gathers_194 : decode cX7_gathers 194 = .ok (.iadd, 1) := by decide +kernel
theorem dX7_gathers_195 : decode cX7_gathers 195 = .ok (.dup2, 1) := by decide +kernel
theorem dX7_gathers_196 : decode cX7_gathers 196 = .ok (.iaload, 1) := by decide +kernel
theorem dX7_gathers_197 : decode cX7_gathers 197 = .ok (.iconst 1, 1) := by decide +kernel
theorem dX7_gathers_198 : decode cX7_gathers 198 = .ok (.iadd, 1) := by decide +kernel
theorem dX7_gathers_199 : decode cX7_gathers 199 = .ok (.iastore, 1) := by decide +kernel
theorem dX7_gathers_200 : decode cX7_gathers 200 = .ok (.iinc 3 1, 3) := by decide +kernel
theorem dX7_gathers_203 : decode cX7_gathers 203 = .ok (.goto (-188), 3) := by decide +kernel
theorem dX7_gathers_206 : decode cX7_gathers 206 = .ok (.iinc 2 1, 3) := by decide +kernel
theorem dX7_gathers_209 : decode cX7_gathers 209 = .ok (.goto (-202), 3) := by decide +kernel
theorem dX7_gathers_212 : decode cX7_gathers 212 = .ok (.return_, 1) := by decide +kernel
theorem dX7_tells_0 : decode cX7_tells 0 = .ok (.iload_n 2, 1) := by decide +kernel
theorem dX7_tells_1 : decode cX7_tells 1 = .ok (.ifCond .le 17, 3) := by decide +kernel
theorem dX7_tells_4 : decode cX7_tells 4 = .ok (.iload_n 0, 1) := by decide +kernel
theorem dX7_tells_5 : decode cX7_tells 5 = .ok (.iload_n 3, 1) := by decide +kernel
theorem dX7_tells_6 : decode cX7_tells 6 = .ok (.ishr, 1) := by decide +kernel
theorem dX7_tells_7 : decode cX7_tells 7 = .ok (.iconst 1, 1) := by decide +kernel
theorem dX7_tells_8 : decode cX7_tells 8 = .ok (.iand, 1) := by decide +kernel
theorem dX7_tells_9 : decode cX7_tells 9 = .ok (.iconst 1, 1) := by decide +kernel
theorem dX7_tells_10 : decode cX7_tells 10 = .ok (.if_icmp .ne 8, 3) := by decide +kernel
theorem dX7_tells_13 : decode cX7_tells 13 = .ok (.iload 4, 2) := by decide +kernel
theorem dX7_tells_15 : decode cX7_tells 15 = .ok (.goto 25, 3) := by decide +kernel
theorem dX7_tells_18 : decode cX7_tells 18 = .ok (.iload_n 2, 1) := by decide +kernel
theorem dX7_tells_19 : decode cX7_tells 19 = .ok (.iconst 1, 1) := by decide +kernel
theorem dX7_tells_20 : decode cX7_tells 20 = .ok (.if_icmp .le 18, 3) := by decide +kernel
theorem dX7_tells_23 : decode cX7_tells 23 = .ok (.iload_n 0, 1) := by decide +kernel
theorem dX7_tells_24 : decode cX7_tells 24 = .ok (.iload 5, 2) := by decide +kernel
theorem dX7_tells_26 : decode cX7_tells 26 = .ok (.ishr, 1) := by decide +kernel
theorem dX7_tells_27 : decode cX7_tells 27 = .ok (.iconst 1, 1) := by decide +kernel
theorem dX7_tells_28 : decode cX7_tells 28 = .ok (.iand, 1) := by decide +kernel
theorem dX7_tells_29 : decode cX7_tells 29 = .ok (.iconst 1, 1) := by decide +kernel
theorem dX7_tells_30 : decode cX7_tells 30 = .ok (.if_icmp .ne 8, 3) := by decide +kernel
theorem dX7_tells_33 : decode cX7_tells 33 = .ok (.iload 6, 2) := by decide +kernel
theorem dX7_tells_35 : decode cX7_tells 35 = .ok (.goto 5, 3) := by decide +kernel
theorem dX7_tells_38 : decode cX7_tells 38 = .ok (.iload 7, 2) := by decide +kernel
theorem dX7_tells_40 : decode cX7_tells 40 = .ok (.istore 8, 2) := by decide +kernel
theorem dX7_tells_42 : decode cX7_tells 42 = .ok (.iload 8, 2) := by decide +kernel
theorem dX7_tells_44 : decode cX7_tells 44 = .ok (.ifCond .ne 11, 3) := by decide +kernel
theorem dX7_tells_47 : decode cX7_tells 47 = .ok (.iload_n 1, 1) := by decide +kernel
theorem dX7_tells_48 : decode cX7_tells 48 = .ok (.ifCond .eq 7, 3) := by decide +kernel
theorem dX7_tells_51 : decode cX7_tells 51 = .ok (.iconst 1, 1) := by decide +kernel
theorem dX7_tells_52 : decode cX7_tells 52 = .ok (.goto 5, 3) := by decide +kernel
theorem dX7_tells_55 : decode cX7_tells 55 = .ok (.iload 8, 2) := by decide +kernel
theorem dX7_tells_57 : decode cX7_tells 57 = .ok (.ireturn, 1) := by decide +kernel
theorem dX7_exceptions_0 : decode cX7_exceptions 0 = .ok (.iconst 0, 1) := by decide +kernel
theorem dX7_exceptions_1 : decode cX7_exceptions 1 = .ok (.istore 7, 2) := by decide +kernel
theorem dX7_exceptions_3 : decode cX7_exceptions 3 = .ok (.iconst 0, 1) := by decide +kernel
theorem dX7_exceptions_4 : decode cX7_exceptions 4 = .ok (.istore 8, 2) := by decide +kernel
theorem dX7_exceptions_6 : decode cX7_exceptions 6 = .ok (.iload 8, 2) := by decide +kernel
theorem dX7_exceptions_8 : decode cX7_exceptions 8 = .ok (.aload_n 0, 1) := by decide +kernel
theorem dX7_exceptions_9 : decode cX7_exceptions 9 = .ok (.getfield 235, 3) := by decide +kernel
theorem dX7_exceptions_12 : decode cX7_exceptions 12 = .ok (.if_icmp .ge 85, 3) := by decide +kernel
theorem dX7_exceptions_15 : decode cX7_exceptions 15 = .ok (.aload_n 0, 1) := by decide +kernel
theorem dX7_exceptions_16 : decode cX7_exceptions 16 = .ok (.getfield 63, 3) := by decide +kernel
theorem dX7_exceptions_19 : decode cX7_exceptions 19 = .ok (.iload 8, 2) := by decide +kernel
theorem dX7_exceptions_21 : decode cX7_exceptions 21 = .ok (.iaload, 1) := by decide +kernel
theorem dX7_exceptions_22 : decode cX7_exceptions 22 = .ok (.aload_n 0, 1) := by decide +kernel
theorem dX7_exceptions_23 : decode cX7_exceptions 23 = .ok (.getfield 66, 3) := by decide +kernel
theorem dX7_exceptions_26 : decode cX7_exceptions 26 = .ok (.iload 8, 2) := by decide +kernel
theorem dX7_exceptions_28 : decode cX7_exceptions 28 = .ok (.iaload, 1) := by decide +kernel
theorem dX7_exceptions_29 : decode cX7_exceptions 29 = .ok (.iconst 1, 1) := by decide +kernel
theorem dX7_exceptions_30 : decode cX7_exceptions 30 = .ok (.if_icmp .ne 7, 3) := by decide +kernel
theorem dX7_exceptions_33 : decode cX7_exceptions 33 = .ok (.iconst 1, 1) := by decide +kernel
theorem dX7_exceptions_34 : decode cX7_exceptions 34 = .ok (.goto 4, 3) := by decide +kernel
theorem dX7_exceptions_37 : decode cX7_exceptions 37 = .ok (.iconst 0, 1) := by decide +kernel
theorem dX7_exceptions_38 : decode cX7_exceptions 38 = .ok (.iload_n 1, 1) := by decide +kernel
theorem dX7_exceptions_39 : decode cX7_exceptions 39 = .ok (.iload_n 2, 1) := by decide +kernel
theorem dX7_exceptions_40 : decode cX7_exceptions 40 = .ok (.iload_n 3, 1) := by decide +kernel
theorem dX7_exceptions_41 : decode cX7_exceptions 41 = .ok (.iload 4, 2) := by decide +kernel
theorem dX7_exceptions_43 : decode cX7_exceptions 43 = .ok (.iload 5, 2) := by decide +kernel
theorem dX7_exceptions_45 : decode cX7_exceptions 45 = .ok (.iload 6, 2) := by decide +kernel
theorem dX7_exceptions_47 : decode cX7_exceptions 47 = .ok (.invokestatic 241, 3) := by decide +kernel
theorem dX7_exceptions_50 : decode cX7_exceptions 50 = .ok (.istore 9, 2) := by decide +kernel
theorem dX7_exceptions_52 : decode cX7_exceptions 52 = .ok (.iconst 0, 1) := by decide +kernel
theorem dX7_exceptions_53 : decode cX7_exceptions 53 = .ok (.istore 10, 2) := by decide +kernel
theorem dX7_exceptions_55 : decode cX7_exceptions 55 = .ok (.iload 10, 2) := by decide +kernel
theorem dX7_exceptions_57 : decode cX7_exceptions 57 = .ok (.iconst 4, 1) := by decide +kernel
theorem dX7_exceptions_58 : decode cX7_exceptions 58 = .ok (.if_icmp .ge 33, 3) := by decide +kernel
theorem dX7_exceptions_61 : decode cX7_exceptions 61 = .ok (.iload 10, 2) := by decide +kernel
theorem dX7_exceptions_63 : decode cX7_exceptions 63 = .ok (.iload 9, 2) := by decide +kernel
theorem dX7_exceptions_65 : decode cX7_exceptions 65 = .ok (.if_icmp .eq 20, 3) := by decide +kernel
theorem dX7_exceptions_68 : decode cX7_exceptions 68 = .ok (.iload 7, 2) := by decide +kernel
theorem dX7_exceptions_70 : decode cX7_exceptions 70 = .ok (.aload_n 0, 1) := by decide +kernel
theorem dX7_exceptions_71 : decode cX7_exceptions 71 = .ok (.getfield 69, 3) := by decide +kernel
theorem dX7_exceptions_74 : decode cX7_exceptions 74 = .ok (.iconst 4, 1) := by decide +kernel
theorem dX7_exceptions_75 : decode cX7_exceptions 75 = .ok (.iload 8, 2) := by decide +kernel
theorem dX7_exceptions_77 : decode cX7_exceptions 77 = .ok (.imul, 1) := by decide +kernel
theorem dX7_exceptions_78 : decode cX7_exceptions 78 = .ok (.iload 10, 2) := by decide +kernel
theorem dX7_exceptions_80 : decode cX7_exceptions 80 = .ok (.iadd, 1) := by decide +kernel
theorem dX7_exceptions_81 : decode cX7_exceptions 81 = .ok (.iaload, 1) := by decide +kernel
theorem dX7_exceptions_82 : decode cX7_exceptions 82 = .ok (.iadd, 1) := by decide +kernel
theorem dX7_exceptions_83 : decode cX7_exceptions 83 = .ok (.istore 7, 2) := by decide +kernel
theorem dX7_exceptions_85 : decode cX7_exceptions 85 = .ok (.iinc 10 1, 3) := by decide +kernel
theorem dX7_exceptions_88 : decode cX7_exceptions 88 = .ok (.goto (-33), 3) := by decide +kernel
theorem dX7_exceptions_91 : decode cX7_exceptions 91 = .ok (.iinc 8 1, 3) := by decide +kernel
theorem dX7_exceptions_94 : decode cX7_exceptions 94 = .ok (.goto (-88), 3) := by decide +kernel
theorem dX7_exceptions_97 : decode cX7_exceptions 97 = .ok (.iload 7, 2) := by decide +kernel
theorem dX7_exceptions_99 : decode cX7_exceptions 99 = .ok (.ireturn, 1) := by decide +kernel
theorem dX7_tries_0 : decode cX7_tries 0 = .ok (.aload_n 0, 1) := by decide +kernel
theorem dX7_tries_1 : decode cX7_tries 1 = .ok (.iload_n 2, 1) := by decide +kernel
theorem dX7_tries_2 : decode cX7_tries 2 = .ok (.iload_n 3, 1) := by decide +kernel
theorem dX7_tries_3 : decode cX7_tries 3 = .ok (.iload 4, 2) := by decide +kernel
theorem dX7_tries_5 : decode cX7_tries 5 = .ok (.iload 5, 2) := by decide +kernel
theorem dX7_tries_7 : decode cX7_tries 7 = .ok (.iload 6, 2) := by decide +kernel
theorem dX7_tries_9 : decode cX7_tries 9 = .ok (.iload 7, 2) := by decide +kernel
theorem dX7_tries_11 : decode cX7_tries 11 = .ok (.invokevirtual 245, 3) := by decide +kernel
theorem dX7_tries_14 : decode cX7_tries 14 = .ok (.istore 8, 2) := by decide +kernel
theorem dX7_tries_16 : decode cX7_tries 16 = .ok (.aload_n 0, 1) := by decide +kernel
theorem dX7_tries_17 : decode cX7_tries 17 = .ok (.getfield 51, 3) := by decide +kernel
theorem dX7_tries_20 : decode cX7_tries 20 = .ok (.iconst 0, 1) := by decide +kernel
theorem dX7_tries_21 : decode cX7_tries 21 = .ok (.iaload, 1) := by decide +kernel
theorem dX7_tries_22 : decode cX7_tries 22 = .ok (.iload_n 2, 1) := by decide +kernel
theorem dX7_tries_23 : decode cX7_tries 23 = .ok (.imul, 1) := by decide +kernel
theorem dX7_tries_24 : decode cX7_tries 24 = .ok (.aload_n 0, 1) := by decide +kernel
theorem dX7_tries_25 : decode cX7_tries 25 = .ok (.getfield 51, 3) := by decide +kernel
theorem dX7_tries_28 : decode cX7_tries 28 = .ok (.iconst 1, 1) := by decide +kernel
theorem dX7_tries_29 : decode cX7_tries 29 = .ok (.iaload, 1) := by decide +kernel
theorem dX7_tries_30 : decode cX7_tries 30 = .ok (.iload 8, 2) := by decide +kernel
theorem dX7_tries_32 : decode cX7_tries 32 = .ok (.imul, 1) := by decide +kernel
theorem dX7_tries_33 : decode cX7_tries 33 = .ok (.iadd, 1) := by decide +kernel
theorem dX7_tries_34 : decode cX7_tries 34 = .ok (.istore 9, 2) := by decide +kernel
theorem dX7_tries_36 : decode cX7_tries 36 = .ok (.bipush 8, 2) := by decide +kernel
theorem dX7_tries_38 : decode cX7_tries 38 = .ok (.iload_n 1, 1) := by decide +kernel
theorem dX7_tries_39 : decode cX7_tries 39 = .ok (.imul, 1) := by decide +kernel
theorem dX7_tries_40 : decode cX7_tries 40 = .ok (.istore 10, 2) := by decide +kernel
theorem dX7_tries_42 : decode cX7_tries 42 = .ok (.iload 9, 2) := by decide +kernel
theorem dX7_tries_44 : decode cX7_tries 44 = .ok (.aload_n 0, 1) := by decide +kernel
theorem dX7_tries_45 : decode cX7_tries 45 = .ok (.getfield 54, 3) := by decide +kernel
theorem dX7_tries_48 : decode cX7_tries 48 = .ok (.iload 10, 2) := by decide +kernel
theorem dX7_tries_50 : decode cX7_tries 50 = .ok (.bipush 6, 2) := by decide +kernel
theorem dX7_tries_52 : decode cX7_tries 52 = .ok (.iadd, 1) := by decide +kernel
theorem dX7_tries_53 : decode cX7_tries 53 = .ok (.iaload, 1) := by decide +kernel
theorem dX7_tries_54 : decode cX7_tries 54 = .ok (.if_icmp .lt 4, 3) := by decide +kernel
theorem dX7_tries_57 : decode cX7_tries 57 = .ok (.return_, 1) := by decide +kernel
theorem dX7_tries_58 : decode cX7_tries 58 = .ok (.aload_n 0, 1) := by decide +kernel
theorem dX7_tries_59 : decode cX7_tries 59 = .ok (.getfield 54, 3) := by decide +kernel
theorem dX7_tries_62 : decode cX7_tries 62 = .ok (.iload 10, 2) := by decide +kernel
theorem dX7_tries_64 : decode cX7_tries 64 = .ok (.iload_n 2, 1) := by decide +kernel
theorem dX7_tries_65 : decode cX7_tries 65 = .ok (.iastore, 1) := by decide +kernel
theorem dX7_tries_66 : decode cX7_tries 66 = .ok (.aload_n 0, 1) := by decide +kernel
theorem dX7_tries_67 : decode cX7_tries 67 = .ok (.getfield 54, 3) := by decide +kernel
theorem dX7_tries_70 : decode cX7_tries 70 = .ok (.iload 10, 2) := by decide +kernel
theorem dX7_tries_72 : decode cX7_tries 72 = .ok (.iconst 1, 1) := by decide +kernel
theorem dX7_tries_73 : decode cX7_tries 73 = .ok (.iadd, 1) := by decide +kernel
theorem dX7_tries_74 : decode cX7_tries 74 = .ok (.iload_n 2, 1) := by decide +kernel
theorem dX7_tries_75 : decode cX7_tries 75 = .ok (.ifCond .le 7, 3) := by decide +kernel
theorem dX7_tries_78 : decode cX7_tries 78 = .ok (.iload_n 3, 1) := by decide +kernel
theorem dX7_tries_79 : decode cX7_tries 79 = .ok (.goto 4, 3) := by decide +kernel
theorem dX7_tries_82 : decode cX7_tries 82 = .ok (.iconst (-1), 1) := by decide +kernel
theorem dX7_tries_83 : decode cX7_tries 83 = .ok (.iastore, 1) := by decide +kernel
theorem dX7_tries_84 : decode cX7_tries 84 = .ok (.aload_n 0, 1) := by decide +kernel
theorem dX7_tries_85 : decode cX7_tries 85 = .ok (.getfield 54, 3) := by decide +kernel
theorem dX7_tries_88 : decode cX7_tries 88 = .ok (.iload 10, 2) := by decide +kernel
theorem dX7_tries_90 : decode cX7_tries 90 = .ok (.iconst 2, 1) := by decide +kernel
theorem dX7_tries_91 : decode cX7_tries 91 = .ok (.iadd, 1) := by decide +kernel
theorem dX7_tries_92 : decode cX7_tries 92 = .ok (.iload_n 2, 1) := by decide +kernel
theorem dX7_tries_93 : decode cX7_tries 93 = .ok (.ifCond .le 8, 3) := by decide +kernel
theorem dX7_tries_96 : decode cX7_tries 96 = .ok (.iload 4, 2) := by decide +kernel
theorem dX7_tries_98 : decode cX7_tries 98 = .ok (.goto 4, 3) := by decide +kernel
theorem dX7_tries_101 : decode cX7_tries 101 = .ok (.iconst (-1), 1) := by decide +kernel
theorem dX7_tries_102 : decode cX7_tries 102 = .ok (.iastore, 1) := by decide +kernel
theorem dX7_tries_103 : decode cX7_tries 103 = .ok (.aload_n 0, 1) := by decide +kernel
theorem dX7_tries_104 : decode cX7_tries 104 = .ok (.getfield 54, 3) := by decide +kernel
theorem dX7_tries_107 : decode cX7_tries 107 = .ok (.iload 10, 2) := by decide +kernel
theorem dX7_tries_109 : decode cX7_tries 109 = .ok (.iconst 3, 1) := by decide +kernel
theorem dX7_tries_110 : decode cX7_tries 110 = .ok (.iadd, 1) := by decide +kernel
theorem dX7_tries_111 : decode cX7_tries 111 = .ok (.iload_n 2, 1) := by decide +kernel
theorem dX7_tries_112 : decode cX7_tries 112 = .ok (.iconst 1, 1) := by decide +kernel
theorem dX7_tries_113 : decode cX7_tries 113 = .ok (.if_icmp .le 8, 3) := by decide +kernel
theorem dX7_tries_116 : decode cX7_tries 116 = .ok (.iload 5, 2) := by decide +kernel
theorem dX7_tries_118 : decode cX7_tries 118 = .ok (.goto 4, 3) := by decide +kernel
theorem dX7_tries_121 : decode cX7_tries 121 = .ok (.iconst (-1), 1) := by decide +kernel
theorem dX7_tries_122 : decode cX7_tries 122 = .ok (.iastore, 1) := by decide +kernel
theorem dX7_tries_123 : decode cX7_tries 123 = .ok (.aload_n 0, 1) := by decide +kernel
theorem dX7_tries_124 : decode cX7_tries 124 = .ok (.getfield 54, 3) := by decide +kernel
theorem dX7_tries_127 : decode cX7_tries 127 = .ok (.iload 10, 2) := by decide +kernel
theorem dX7_tries_129 : decode cX7_tries 129 = .ok (.iconst 4, 1) := by decide +kernel
theorem dX7_tries_130 : decode cX7_tries 130 = .ok (.iadd, 1) := by decide +kernel
theorem dX7_tries_131 : decode cX7_tries 131 = .ok (.iload_n 2, 1) := by decide +kernel
theorem dX7_tries_132 : decode cX7_tries 132 = .ok (.iconst 1, 1) := by decide +kernel
theorem dX7_tries_133 : decode cX7_tries 133 = .ok (.if_icmp .le 8, 3) := by decide +kernel
theorem dX7_tries_136 : decode cX7_tries 136 = .ok (.iload 6, 2) := by decide +kernel
theorem dX7_tries_138 : decode cX7_tries 138 = .ok (.goto 4, 3) := by decide +kernel
theorem dX7_tries_141 : decode cX7_tries 141 = .ok (.iconst (-1), 1) := by decide +kernel
theorem dX7_tries_142 : decode cX7_tries 142 = .ok (.iastore, 1) := by decide +kernel
theorem dX7_tries_143 : decode cX7_tries 143 = .ok (.aload_n 0, 1) := by decide +kernel
theorem dX7_tries_144 : decode cX7_tries 144 = .ok (.getfield 54, 3) := by decide +kernel
theorem dX7_tries_147 : decode cX7_tries 147 = .ok (.iload 10, 2) := by decide +kernel
theorem dX7_tries_149 : decode cX7_tries 149 = .ok (.iconst 5, 1) := by decide +kernel
theorem dX7_tries_150 : decode cX7_tries 150 = .ok (.iadd, 1) := by decide +kernel
theorem dX7_tries_151 : decode cX7_tries 151 = .ok (.iload 7, 2) := by decide +kernel
theorem dX7_tries_153 : decode cX7_tries 153 = .ok (.iastore, 1) := by decide +kernel
theorem dX7_tries_154 : decode cX7_tries 154 = .ok (.aload_n 0, 1) := by decide +kernel
theorem dX7_tries_155 : decode cX7_tries 155 = .ok (.getfield 54, 3) := by decide +kernel
theorem dX7_tries_158 : decode cX7_tries 158 = .ok (.iload 10, 2) := by decide +kernel
theorem dX7_tries_160 : decode cX7_tries 160 = .ok (.bipush 6, 2) := by decide +kernel
theorem dX7_tries_162 : decode cX7_tries 162 = .ok (.iadd, 1) := by decide +kernel
theorem dX7_tries_163 : decode cX7_tries 163 = .ok (.iload 9, 2) := by decide +kernel
theorem dX7_tries_165 : decode cX7_tries 165 = .ok (.iastore, 1) := by decide +kernel
theorem dX7_tries_166 : decode cX7_tries 166 = .ok (.aload_n 0, 1) := by decide +kernel
theorem dX7_tries_167 : decode cX7_tries 167 = .ok (.getfield 54, 3) := by decide +kernel
theorem dX7_tries_170 : decode cX7_tries 170 = .ok (.iload 10, 2) := by decide +kernel
theorem dX7_tries_172 : decode cX7_tries 172 = .ok (.bipush 7, 2) := by decide +kernel
theorem dX7_tries_174 : decode cX7_tries 174 = .ok (.iadd, 1) := by decide +kernel
theorem dX7_tries_175 : decode cX7_tries 175 = .ok (.iload 8, 2) := by decide +kernel
theorem dX7_tries_177 : decode cX7_tries 177 = .ok (.iastore, 1) := by decide +kernel
theorem dX7_tries_178 : decode cX7_tries 178 = .ok (.return_, 1) := by decide +kernel
theorem dX7_find_0 : decode cX7_find 0 = .ok (.aload_n 0, 1) := by decide +kernel
theorem dX7_find_1 : decode cX7_find 1 = .ok (.iconst 0, 1) := by decide +kernel
theorem dX7_find_2 : decode cX7_find 2 = .ok (.putfield 78, 3) := by decide +kernel
theorem dX7_find_5 : decode cX7_find 5 = .ok (.iconst 0, 1) := by decide +kernel
theorem dX7_find_6 : decode cX7_find 6 = .ok (.istore_n 1, 1) := by decide +kernel
theorem dX7_find_7 : decode cX7_find 7 = .ok (.iconst 0, 1) := by decide +kernel
theorem dX7_find_8 : decode cX7_find 8 = .ok (.istore_n 2, 1) := by decide +kernel
theorem dX7_find_9 : decode cX7_find 9 = .ok (.iload_n 2, 1) := by decide +kernel
theorem dX7_find_10 : decode cX7_find 10 = .ok (.bipush 16, 2) := by decide +kernel
theorem dX7_find_12 : decode cX7_find 12 = .ok (.if_icmp .ge 220, 3) := by decide +kernel
theorem dX7_find_15 : decode cX7_find 15 = .ok (.aload_n 0, 1) := by decide +kernel
theorem dX7_find_16 : decode cX7_find 16 = .ok (.iload_n 2, 1) := by decide +kernel
theorem dX7_find_17 : decode cX7_find 17 = .ok (.invokevirtual 249, 3) := by decide +kernel
theorem dX7_find_20 : decode cX7_find 20 = .ok (.aload_n 0, 1) := by decide +kernel
theorem dX7_find_21 : decode cX7_find 21 = .ok (.getfield 54, 3) := by decide +kernel
theorem dX7_find_24 : decode cX7_find 24 = .ok (.bipush 8, 2) := by decide +kernel
theorem dX7_find_26 : decode cX7_find 26 = .ok (.iload_n 2, 1) := by decide +kernel
theorem dX7_find_27 : decode cX7_find 27 = .ok (.imul, 1) := by decide +kernel
theorem dX7_find_28 : decode cX7_find 28 = .ok (.bipush 6, 2) := by decide +kernel
theorem dX7_find_30 : decode cX7_find 30 = .ok (.iadd, 1) := by decide +kernel
theorem dX7_find_31 : decode cX7_find 31 = .ok (.ldc 252, 2) := by decide +kernel
theorem dX7_find_33 : decode cX7_find 33 = .ok (.iastore, 1) := by decide +kernel
theorem dX7_find_34 : decode cX7_find 34 = .ok (.iconst 0, 1) := by decide +kernel
theorem dX7_find_35 : decode cX7_find 35 = .ok (.istore_n 3, 1) := by decide +kernel
theorem dX7_find_36 : decode cX7_find 36 = .ok (.iload_n 3, 1) := by decide +kernel
theorem dX7_find_37 : decode cX7_find 37 = .ok (.iconst 3, 1) := by decide +kernel
theorem dX7_find_38 : decode cX7_find 38 = .ok (.if_icmp .ge 20, 3) := by decide +kernel
theorem dX7_find_41 : decode cX7_find 41 = .ok (.aload_n 0, 1) := by decide +kernel
theorem dX7_find_42 : decode cX7_find 42 = .ok (.iload_n 2, 1) := by decide +kernel
theorem dX7_find_43 : decode cX7_find 43 = .ok (.iconst 0, 1) := by decide +kernel
theorem dX7_find_44 : decode cX7_find 44 = .ok (.iconst 0, 1) := by decide +kernel
theorem dX7_find_45 : decode cX7_find 45 = .ok (.iconst 0, 1) := by decide +kernel
theorem dX7_find_46 : decode cX7_find 46 = .ok (.iconst 0, 1) := by decide +kernel
theorem dX7_find_47 : decode cX7_find 47 = .ok (.iconst 0, 1) := by decide +kernel
theorem dX7_find_48 : decode cX7_find 48 = .ok (.iload_n 3, 1) := by decide +kernel
theorem dX7_find_49 : decode cX7_find 49 = .ok (.invokevirtual 253, 3) := by decide +kernel
theorem dX7_find_52 : decode cX7_find 52 = .ok (.iinc 3 1, 3) := by decide +kernel
theorem dX7_find_55 : decode cX7_find 55 = .ok (.goto (-19), 3) := by decide +kernel
theorem dX7_find_58 : decode cX7_find 58 = .ok (.iconst 0, 1) := by decide +kernel
theorem dX7_find_59 : decode cX7_find 59 = .ok (.istore_n 3, 1) := by decide +kernel
theorem dX7_find_60 : decode cX7_find 60 = .ok (.iload_n 3, 1) := by decide +kernel
theorem dX7_find_61 : decode cX7_find 61 = .ok (.bipush 10, 2) := by decide +kernel
theorem dX7_find_63 : decode cX7_find 63 = .ok (.if_icmp .ge 52, 3) := by decide +kernel
theorem dX7_find_66 : decode cX7_find 66 = .ok (.iconst 0, 1) := by decide +kernel
theorem dX7_find_67 : decode cX7_find 67 = .ok (.istore 4, 2) := by decide +kernel
theorem dX7_find_69 : decode cX7_find 69 = .ok (.iload 4, 2) := by decide +kernel
theorem dX7_find_71 : decode cX7_find 71 = .ok (.iconst 3, 1) := by decide +kernel
theorem dX7_find_72 : decode cX7_find 72 = .ok (.if_icmp .ge 37, 3) := by decide +kernel
theorem dX7_find_75 : decode cX7_find 75 = .ok (.iconst 0, 1) := by decide +kernel
theorem dX7_find_76 : decode cX7_find 76 = .ok (.istore 5, 2) := by decide +kernel
theorem dX7_find_78 : decode cX7_find 78 = .ok (.iload 5, 2) := by decide +kernel
theorem dX7_find_80 : decode cX7_find 80 = .ok (.iconst 3, 1) := by decide +kernel
theorem dX7_find_81 : decode cX7_find 81 = .ok (.if_icmp .ge 22, 3) := by decide +kernel
theorem dX7_find_84 : decode cX7_find 84 = .ok (.aload_n 0, 1) := by decide +kernel
theorem dX7_find_85 : decode cX7_find 85 = .ok (.iload_n 2, 1) := by decide +kernel
theorem dX7_find_86 : decode cX7_find 86 = .ok (.iconst 1, 1) := by decide +kernel
theorem dX7_find_87 : decode cX7_find 87 = .ok (.iload_n 3, 1) := by decide +kernel
theorem dX7_find_88 : decode cX7_find 88 = .ok (.iload 4, 2) := by decide +kernel
theorem dX7_find_90 : decode cX7_find 90 = .ok (.iconst 0, 1) := by decide +kernel
theorem dX7_find_91 : decode cX7_find 91 = .ok (.iconst 0, 1) := by decide +kernel
theorem dX7_find_92 : decode cX7_find 92 = .ok (.iload 5, 2) := by decide +kernel
theorem dX7_find_94 : decode cX7_find 94 = .ok (.invokevirtual 253, 3) := by decide +kernel
theorem dX7_find_97 : decode cX7_find 97 = .ok (.iinc 5 1, 3) := by decide +kernel
theorem dX7_find_100 : decode cX7_find 100 = .ok (.goto (-22), 3) := by decide +kernel
theorem dX7_find_103 : decode cX7_find 103 = .ok (.iinc 4 1, 3) := by decide +kernel
theorem dX7_find_106 : decode cX7_find 106 = .ok (.goto (-37), 3) := by decide +kernel
theorem dX7_find_109 : decode cX7_find 109 = .ok (.iinc 3 1, 3) := by decide +kernel
theorem dX7_find_112 : decode cX7_find 112 = .ok (.goto (-52), 3) := by decide +kernel
theorem dX7_find_115 : decode cX7_find 115 = .ok (.iconst 0, 1) := by decide +kernel
theorem dX7_find_116 : decode cX7_find 116 = .ok (.istore_n 3, 1) := by decide +kernel
theorem dX7_find_117 : decode cX7_find 117 = .ok (.iload_n 3, 1) := by decide +kernel
theorem dX7_find_118 : decode cX7_find 118 = .ok (.bipush 10, 2) := by decide +kernel
theorem dX7_find_120 : decode cX7_find 120 = .ok (.if_icmp .ge 91, 3) := by decide +kernel
theorem dX7_find_123 : decode cX7_find 123 = .ok (.iconst 0, 1) := by decide +kernel
theorem dX7_find_124 : decode cX7_find 124 = .ok (.istore 4, 2) := by decide +kernel
theorem dX7_find_126 : decode cX7_find 126 = .ok (.iload 4, 2) := by decide +kernel
theorem dX7_find_128 : decode cX7_find 128 = .ok (.iconst 3, 1) := by decide +kernel
theorem dX7_find_129 : decode cX7_find 129 = .ok (.if_icmp .ge 76, 3) := by decide +kernel
theorem dX7_find_132 : decode cX7_find 132 = .ok (.iconst 0, 1) := by decide +kernel
theorem dX7_find_133 : decode cX7_find 133 = .ok (.istore 5, 2) := by decide +kernel
theorem dX7_find_135 : decode cX7_find 135 = .ok (.iload 5, 2) := by decide +kernel
theorem dX7_find_137 : decode cX7_find 137 = .ok (.bipush 10, 2) := by decide +kernel
theorem dX7_find_139 : decode cX7_find 139 = .ok (.if_icmp .ge 60, 3) := by decide +kernel
theorem dX7_find_142 : decode cX7_find 142 = .ok (.iconst 0, 1) := by decide +kernel
theorem dX7_find_143 : decode cX7_find 143 = .ok (.istore 6, 2) := by decide +kernel
theorem dX7_find_145 : decode cX7_find 145 = .ok (.iload 6, 2) := by decide +kernel
theorem dX7_find_147 : decode cX7_find 147 = .ok (.iconst 3, 1) := by decide +kernel
theorem dX7_find_148 : decode cX7_find 148 = .ok (.if_icmp .ge 45, 3) := by decide +kernel
theorem dX7_find_151 : decode cX7_find 151 = .ok (.iload 5, 2) := by decide +kernel
theorem dX7_find_153 : decode cX7_find 153 = .ok (.iload_n 3, 1) := by decide +kernel
theorem dX7_find_154 : decode cX7_find 154 = .ok (.if_icmp .eq 39, 3) := by decide +kernel
theorem dX7_find_157 : decode cX7_find 157 = .ok (.iconst 0, 1) := by decide +kernel
theorem dX7_find_158 : decode cX7_find 158 = .ok (.istore 7, 2) := by decide +kernel
theorem dX7_find_160 : decode cX7_find 160 = .ok (.iload 7, 2) := by decide +kernel
theorem dX7_find_162 : decode cX7_find 162 = .ok (.iconst 3, 1) := by decide +kernel
theorem dX7_find_163 : decode cX7_find 163 = .ok (.if_icmp .ge 24, 3) := by decide +kernel
theorem dX7_find_166 : decode cX7_find 166 = .ok (.aload_n 0, 1) := by decide +kernel
theorem dX7_find_167 : decode cX7_find 167 = .ok (.iload_n 2, 1) := by decide +kernel
theorem dX7_find_168 : decode cX7_find 168 = .ok (.iconst 2, 1) := by decide +kernel
theorem dX7_find_169 : decode cX7_find 169 = .ok (.iload_n 3, 1) := by decide +kernel
theorem dX7_find_170 : decode cX7_find 170 = .ok (.iload 4, 2) := by decide +kernel
theorem dX7_find_172 : decode cX7_find 172 = .ok (.iload 5, 2) := by decide +kernel
theorem dX7_find_174 : decode cX7_find 174 = .ok (.iload 6, 2) := by decide +kernel
theorem dX7_find_176 : decode cX7_find 176 = .ok (.iload 7, 2) := by decide +kernel
theorem dX7_find_178 : decode cX7_find 178 = .ok (.invokevirtual 253, 3) := by decide +kernel
theorem dX7_find_181 : decode cX7_find 181 = .ok (.iinc 7 1, 3) := by decide +kernel
theorem dX7_find_184 : decode cX7_find 184 = .ok (.goto (-24), 3) := by decide +kernel
theorem dX7_find_187 : decode cX7_find 187 = .ok (.iinc 6 1, 3) := by decide +kernel
theorem dX7_find_190 : decode cX7_find 190 = .ok (.goto (-45), 3) := by decide +kernel
theorem dX7_find_193 : decode cX7_find 193 = .ok (.iinc 5 1, 3) := by decide +kernel
theorem dX7_find_196 : decode cX7_find 196 = .ok (.goto (-61), 3) := by decide +kernel
theorem dX7_find_199 : decode cX7_find 199 = .ok (.iinc 4 1, 3) := by decide +kernel
theorem dX7_find_202 : decode cX7_find 202 = .ok (.goto (-76), 3) := by decide +kernel
theorem dX7_find_205 : decode cX7_find 205 = .ok (.iinc 3 1, 3) := by decide +kernel
theorem dX7_find_208 : decode cX7_find 208 = .ok (.goto (-91), 3) := by decide +kernel
theorem dX7_find_211 : decode cX7_find 211 = .ok (.iload_n 1, 1) := by decide +kernel
theorem dX7_find_212 : decode cX7_find 212 = .ok (.aload_n 0, 1) := by decide +kernel
theorem dX7_find_213 : decode cX7_find 213 = .ok (.getfield 54, 3) := by decide +kernel
theorem dX7_find_216 : decode cX7_find 216 = .ok (.bipush 8, 2) := by decide +kernel
theorem dX7_find_218 : decode cX7_find 218 = .ok (.iload_n 2, 1) := by decide +kernel
theorem dX7_find_219 : decode cX7_find 219 = .ok (.imul, 1) := by decide +kernel
theorem dX7_find_220 : decode cX7_find 220 = .ok (.bipush 6, 2) := by decide +kernel
theorem dX7_find_222 : decode cX7_find 222 = .ok (.iadd, 1) := by decide +kernel
theorem dX7_find_223 : decode cX7_find 223 = .ok (.iaload, 1) := by decide +kernel
theorem dX7_find_224 : decode cX7_find 224 = .ok (.iadd, 1) := by decide +kernel
theorem dX7_find_225 : decode cX7_find 225 = .ok (.istore_n 1, 1) := by decide +kernel
theorem dX7_find_226 : decode cX7_find 226 = .ok (.iinc 2 1, 3) := by decide +kernel
theorem dX7_find_229 : decode cX7_find 229 = .ok (.goto (-220), 3) := by decide +kernel
theorem dX7_find_232 : decode cX7_find 232 = .ok (.aload_n 0, 1) := by decide +kernel
theorem dX7_find_233 : decode cX7_find 233 = .ok (.iconst 1, 1) := by decide +kernel
theorem dX7_find_234 : decode cX7_find 234 = .ok (.putfield 257, 3) := by decide +kernel
theorem dX7_find_237 : decode cX7_find 237 = .ok (.iload_n 1, 1) := by decide +kernel
theorem dX7_find_238 : decode cX7_find 238 = .ok (.ireturn, 1) := by decide +kernel
theorem dX7_habit_0 : decode cX7_habit 0 = .ok (.aload_n 0, 1) := by decide +kernel
theorem dX7_habit_1 : decode cX7_habit 1 = .ok (.iconst 0, 1) := by decide +kernel
theorem dX7_habit_2 : decode cX7_habit 2 = .ok (.putfield 78, 3) := by decide +kernel
theorem dX7_habit_5 : decode cX7_habit 5 = .ok (.aload_n 0, 1) := by decide +kernel
theorem dX7_habit_6 : decode cX7_habit 6 = .ok (.iload_n 1, 1) := by decide +kernel
theorem dX7_habit_7 : decode cX7_habit 7 = .ok (.ifCond .lt 23, 3) := by decide +kernel
theorem dX7_habit_10 : decode cX7_habit 10 = .ok (.iload_n 1, 1) := by decide +kernel
theorem dX7_habit_11 : decode cX7_habit 11 = .ok (.bipush 15, 2) := by decide +kernel
theorem dX7_habit_13 : decode cX7_habit 13 = .ok (.if_icmp .gt 17, 3) := by decide +kernel
theorem dX7_habit_16 : decode cX7_habit 16 = .ok (.iload_n 2, 1) := by decide +kernel
theorem dX7_habit_17 : decode cX7_habit 17 = .ok (.ifCond .lt 13, 3) := by decide +kernel
theorem dX7_habit_20 : decode cX7_habit 20 = .ok (.iload_n 2, 1) := by decide +kernel
theorem dX7_habit_21 : decode cX7_habit 21 = .ok (.bipush 7, 2) := by decide +kernel
theorem dX7_habit_23 : decode cX7_habit 23 = .ok (.if_icmp .gt 7, 3) := by decide +kernel
theorem dX7_habit_26 : decode cX7_habit 26 = .ok (.iconst 1, 1) := by decide +kernel
theorem dX7_habit_27 : decode cX7_habit 27 = .ok (.goto 4, 3) := by decide +kernel
theorem dX7_habit_30 : decode cX7_habit 30 = .ok (.iconst 0, 1) := by decide +kernel
theorem dX7_habit_31 : decode cX7_habit 31 = .ok (.iconst 1, 1) := by decide +kernel
theorem dX7_habit_32 : decode cX7_habit 32 = .ok (.invokevirtual 208, 3) := by decide +kernel
theorem dX7_habit_35 : decode cX7_habit 35 = .ok (.ifCond .ne 5, 3) := by decide +kernel
theorem dX7_habit_38 : decode cX7_habit 38 = .ok (.iconst 0, 1) := by decide +kernel
theorem dX7_habit_39 : decode cX7_habit 39 = .ok (.ireturn, 1) := by decide +kernel
theorem dX7_habit_40 : decode cX7_habit 40 = .ok (.aload_n 0, 1) := by decide +kernel
theorem dX7_habit_41 : decode cX7_habit 41 = .ok (.getfield 257, 3) := by decide +kernel
theorem dX7_habit_44 : decode cX7_habit 44 = .ok (.ifCond .eq 17, 3) := by decide +kernel
theorem dX7_habit_47 : decode cX7_habit 47 = .ok (.aload_n 0, 1) := by decide +kernel
theorem dX7_habit_48 : decode cX7_habit 48 = .ok (.getfield 54, 3) := by decide +kernel
theorem dX7_habit_51 : decode cX7_habit 51 = .ok (.bipush 8, 2) := by decide +kernel
theorem dX7_habit_53 : decode cX7_habit 53 = .ok (.iload_n 1, 1) := by decide +kernel
theorem dX7_habit_54 : decode cX7_habit 54 = .ok (.imul, 1) := by decide +kernel
theorem dX7_habit_55 : decode cX7_habit 55 = .ok (.iload_n 2, 1) := by decide +kernel
theorem dX7_habit_56 : decode cX7_habit 56 = .ok (.iadd, 1) := by decide +kernel
theorem dX7_habit_57 : decode cX7_habit 57 = .ok (.iaload, 1) := by decide +kernel
theorem dX7_habit_58 : decode cX7_habit 58 = .ok (.goto 4, 3) := by decide +kernel
theorem dX7_habit_61 : decode cX7_habit 61 = .ok (.iconst (-1), 1) := by decide +kernel
theorem dX7_habit_62 : decode cX7_habit 62 = .ok (.ireturn, 1) := by decide +kernel
theorem dX7_toldAt_0 : decode cX7_toldAt 0 = .ok (.bipush 8, 2) := by decide +kernel
theorem dX7_toldAt_2 : decode cX7_toldAt 2 = .ok (.aload_n 0, 1) := by decide +kernel
theorem dX7_toldAt_3 : decode cX7_toldAt 3 = .ok (.iload_n 1, 1) := by decide +kernel
theorem dX7_toldAt_4 : decode cX7_toldAt 4 = .ok (.iload_n 2, 1) := by decide +kernel
theorem dX7_toldAt_5 : decode cX7_toldAt 5 = .ok (.invokevirtual 226, 3) := by decide +kernel
theorem dX7_toldAt_8 : decode cX7_toldAt 8 = .ok (.imul, 1) := by decide +kernel
theorem dX7_toldAt_9 : decode cX7_toldAt 9 = .ok (.istore_n 3, 1) := by decide +kernel
theorem dX7_toldAt_10 : decode cX7_toldAt 10 = .ok (.aload_n 0, 1) := by decide +kernel
theorem dX7_toldAt_11 : decode cX7_toldAt 11 = .ok (.iload_n 1, 1) := by decide +kernel
theorem dX7_toldAt_12 : decode cX7_toldAt 12 = .ok (.iload_n 2, 1) := by decide +kernel
theorem dX7_toldAt_13 : decode cX7_toldAt 13 = .ok (.invokevirtual 232, 3) := by decide +kernel
theorem dX7_toldAt_16 : decode cX7_toldAt 16 = .ok (.aload_n 0, 1) := by decide +kernel
theorem dX7_toldAt_17 : decode cX7_toldAt 17 = .ok (.iload_n 1, 1) := by decide +kernel
theorem dX7_toldAt_18 : decode cX7_toldAt 18 = .ok (.iload_n 2, 1) := by decide +kernel
theorem dX7_toldAt_19 : decode cX7_toldAt 19 = .ok (.invokevirtual 238, 3) := by decide +kernel
theorem dX7_toldAt_22 : decode cX7_toldAt 22 = .ok (.aload_n 0, 1) := by decide +kernel
theorem dX7_toldAt_23 : decode cX7_toldAt 23 = .ok (.getfield 54, 3) := by decide +kernel
theorem dX7_toldAt_26 : decode cX7_toldAt 26 = .ok (.iload_n 3, 1) := by decide +kernel
theorem dX7_toldAt_27 : decode cX7_toldAt 27 = .ok (.iaload, 1) := by decide +kernel
theorem dX7_toldAt_28 : decode cX7_toldAt 28 = .ok (.aload_n 0, 1) := by decide +kernel
theorem dX7_toldAt_29 : decode cX7_toldAt 29 = .ok (.getfield 54, 3) := by decide +kernel
theorem dX7_toldAt_32 : decode cX7_toldAt 32 = .ok (.iload_n 3, 1) := by decide +kernel
theorem dX7_toldAt_33 : decode cX7_toldAt 33 = .ok (.iconst 1, 1) := by decide +kernel
theorem dX7_toldAt_34 : decode cX7_toldAt 34 = .ok (.iadd, 1) := by decide +kernel
theorem dX7_toldAt_35 : decode cX7_toldAt 35 = .ok (.iaload, 1) := by decide +kernel
theorem dX7_toldAt_36 : decode cX7_toldAt 36 = .ok (.aload_n 0, 1) := by decide +kernel
theorem dX7_toldAt_37 : decode cX7_toldAt 37 = .ok (.getfield 54, 3) := by decide +kernel
theorem dX7_toldAt_40 : decode cX7_toldAt 40 = .ok (.iload_n 3, 1) := by decide +kernel
theorem dX7_toldAt_41 : decode cX7_toldAt 41 = .ok (.iconst 2, 1) := by decide +kernel
theorem dX7_toldAt_42 : decode cX7_toldAt 42 = .ok (.iadd, 1) := by decide +kernel
theorem dX7_toldAt_43 : decode cX7_toldAt 43 = .ok (.iaload, 1) := by decide +kernel
theorem dX7_toldAt_44 : decode cX7_toldAt 44 = .ok (.aload_n 0, 1) := by decide +kernel
theorem dX7_toldAt_45 : decode cX7_toldAt 45 = .ok (.getfield 54, 3) := by decide +kernel
theorem dX7_toldAt_48 : decode cX7_toldAt 48 = .ok (.iload_n 3, 1) := by decide +kernel
theorem dX7_toldAt_49 : decode cX7_toldAt 49 = .ok (.iconst 3, 1) := by decide +kernel
theorem dX7_toldAt_50 : decode cX7_toldAt 50 = .ok (.iadd, 1) := by decide +kernel
theorem dX7_toldAt_51 : decode cX7_toldAt 51 = .ok (.iaload, 1) := by decide +kernel
theorem dX7_toldAt_52 : decode cX7_toldAt 52 = .ok (.aload_n 0, 1) := by decide +kernel
theorem dX7_toldAt_53 : decode cX7_toldAt 53 = .ok (.getfield 54, 3) := by decide +kernel
theorem dX7_toldAt_56 : decode cX7_toldAt 56 = .ok (.iload_n 3, 1) := by decide +kernel
theorem dX7_toldAt_57 : decode cX7_toldAt 57 = .ok (.iconst 4, 1) := by decide +kernel
theorem dX7_toldAt_58 : decode cX7_toldAt 58 = .ok (.iadd, 1) := by decide +kernel
theorem dX7_toldAt_59 : decode cX7_toldAt 59 = .ok (.iaload, 1) := by decide +kernel
theorem dX7_toldAt_60 : decode cX7_toldAt 60 = .ok (.aload_n 0, 1) := by decide +kernel
theorem dX7_toldAt_61 : decode cX7_toldAt 61 = .ok (.getfield 54, 3) := by decide +kernel
theorem dX7_toldAt_64 : decode cX7_toldAt 64 = .ok (.iload_n 3, 1) := by decide +kernel
theorem dX7_toldAt_65 : decode cX7_toldAt 65 = .ok (.iconst 5, 1) := by decide +kernel
theorem dX7_toldAt_66 : decode cX7_toldAt 66 = .ok (.iadd, 1) := by decide +kernel
theorem dX7_toldAt_67 : decode cX7_toldAt 67 = .ok (.iaload, 1) := by decide +kernel
theorem dX7_toldAt_68 : decode cX7_toldAt 68 = .ok (.invokestatic 241, 3) := by decide +kernel
theorem dX7_toldAt_71 : decode cX7_toldAt 71 = .ok (.ireturn, 1) := by decide +kernel
theorem dX7_exception_0 : decode cX7_exception 0 = .ok (.aload_n 0, 1) := by decide +kernel
theorem dX7_exception_1 : decode cX7_exception 1 = .ok (.iload_n 1, 1) := by decide +kernel
theorem dX7_exception_2 : decode cX7_exception 2 = .ok (.invokevirtual 216, 3) := by decide +kernel
theorem dX7_exception_5 : decode cX7_exception 5 = .ok (.ifCond .eq 21, 3) := by decide +kernel
theorem dX7_exception_8 : decode cX7_exception 8 = .ok (.aload_n 0, 1) := by decide +kernel
theorem dX7_exception_9 : decode cX7_exception 9 = .ok (.iload_n 2, 1) := by decide +kernel
theorem dX7_exception_10 : decode cX7_exception 10 = .ok (.iconst (-1), 1) := by decide +kernel
theorem dX7_exception_11 : decode cX7_exception 11 = .ok (.if_icmp .lt 7, 3) := by decide +kernel
theorem dX7_exception_14 : decode cX7_exception 14 = .ok (.iconst 1, 1) := by decide +kernel
theorem dX7_exception_15 : decode cX7_exception 15 = .ok (.goto 4, 3) := by decide +kernel
theorem dX7_exception_18 : decode cX7_exception 18 = .ok (.iconst 0, 1) := by decide +kernel
theorem dX7_exception_19 : decode cX7_exception 19 = .ok (.iconst 2, 1) := by decide +kernel
theorem dX7_exception_20 : decode cX7_exception 20 = .ok (.invokevirtual 208, 3) := by decide +kernel
theorem dX7_exception_23 : decode cX7_exception 23 = .ok (.ifCond .ne 5, 3) := by decide +kernel
theorem dX7_exception_26 : decode cX7_exception 26 = .ok (.iconst 0, 1) := by decide +kernel
theorem dX7_exception_27 : decode cX7_exception 27 = .ok (.ireturn, 1) := by decide +kernel
theorem dX7_exception_28 : decode cX7_exception 28 = .ok (.aload_n 0, 1) := by decide +kernel
theorem dX7_exception_29 : decode cX7_exception 29 = .ok (.getfield 257, 3) := by decide +kernel
theorem dX7_exception_32 : decode cX7_exception 32 = .ok (.ifCond .ne 5, 3) := by decide +kernel
theorem dX7_exception_35 : decode cX7_exception 35 = .ok (.iconst (-1), 1) := by decide +kernel
theorem dX7_exception_36 : decode cX7_exception 36 = .ok (.ireturn, 1) := by decide +kernel
theorem dX7_exception_37 : decode cX7_exception 37 = .ok (.iconst 0, 1) := by decide +kernel
theorem dX7_exception_38 : decode cX7_exception 38 = .ok (.istore_n 3, 1) := by decide +kernel
theorem dX7_exception_39 : decode cX7_exception 39 = .ok (.iconst 0, 1) := by decide +kernel
theorem dX7_exception_40 : decode cX7_exception 40 = .ok (.istore 4, 2) := by decide +kernel
theorem dX7_exception_42 : decode cX7_exception 42 = .ok (.iload 4, 2) := by decide +kernel
theorem dX7_exception_44 : decode cX7_exception 44 = .ok (.aload_n 0, 1) := by decide +kernel
theorem dX7_exception_45 : decode cX7_exception 45 = .ok (.getfield 30, 3) := by decide +kernel
theorem dX7_exception_48 : decode cX7_exception 48 = .ok (.iload_n 1, 1) := by decide +kernel
theorem dX7_exception_49 : decode cX7_exception 49 = .ok (.iaload, 1) := by decide +kernel
theorem dX7_exception_50 : decode cX7_exception 50 = .ok (.iconst 1, 1) := by decide +kernel
theorem dX7_exception_51 : decode cX7_exception 51 = .ok (.isub, 1) := by decide +kernel
theorem dX7_exception_52 : decode cX7_exception 52 = .ok (.if_icmp .ge 40, 3) := by decide +kernel
theorem dX7_exception_55 : decode cX7_exception 55 = .ok (.aload_n 0, 1) := by decide +kernel
theorem dX7_exception_56 : decode cX7_exception 56 = .ok (.iload_n 1, 1) := by decide +kernel
theorem dX7_exception_57 : decode cX7_exception 57 = .ok (.iload 4, 2) := by decide +kernel
theorem dX7_exception_59 : decode cX7_exception 59 = .ok (.invokevirtual 261, 3) := by decide +kernel
theorem dX7_exception_62 : decode cX7_exception 62 = .ok (.aload_n 0, 1) := by decide +kernel
theorem dX7_exception_63 : decode cX7_exception 63 = .ok (.iload_n 1, 1) := by decide +kernel
theorem dX7_exception_64 : decode cX7_exception 64 = .ok (.iload 4, 2) := by decide +kernel
theorem dX7_exception_66 : decode cX7_exception 66 = .ok (.invokevirtual 229, 3) := by decide +kernel
theorem dX7_exception_69 : decode cX7_exception 69 = .ok (.if_icmp .ne 6, 3) := by decide +kernel
theorem dX7_exception_72 : decode cX7_exception 72 = .ok (.goto 14, 3) := by decide +kernel
theorem dX7_exception_75 : decode cX7_exception 75 = .ok (.iload_n 3, 1) := by decide +kernel
theorem dX7_exception_76 : decode cX7_exception 76 = .ok (.iload_n 2, 1) := by decide +kernel
theorem dX7_exception_77 : decode cX7_exception 77 = .ok (.if_icmp .ne 6, 3) := by decide +kernel
theorem dX7_exception_80 : decode cX7_exception 80 = .ok (.iload 4, 2) := by decide +kernel
theorem dX7_exception_82 : decode cX7_exception 82 = .ok (.ireturn, 1) := by decide +kernel
theorem dX7_exception_83 : decode cX7_exception 83 = .ok (.iinc 3 1, 3) := by decide +kernel
theorem dX7_exception_86 : decode cX7_exception 86 = .ok (.iinc 4 1, 3) := by decide +kernel
theorem dX7_exception_89 : decode cX7_exception 89 = .ok (.goto (-47), 3) := by decide +kernel
theorem dX7_exception_92 : decode cX7_exception 92 = .ok (.iload_n 2, 1) := by decide +kernel
theorem dX7_exception_93 : decode cX7_exception 93 = .ok (.iconst (-1), 1) := by decide +kernel
theorem dX7_exception_94 : decode cX7_exception 94 = .ok (.if_icmp .ne 7, 3) := by decide +kernel
theorem dX7_exception_97 : decode cX7_exception 97 = .ok (.iload_n 3, 1) := by decide +kernel
theorem dX7_exception_98 : decode cX7_exception 98 = .ok (.goto 4, 3) := by decide +kernel
theorem dX7_exception_101 : decode cX7_exception 101 = .ok (.iconst (-1), 1) := by decide +kernel
theorem dX7_exception_102 : decode cX7_exception 102 = .ok (.ireturn, 1) := by decide +kernel
theorem dX7_says_0 : decode cX7_says 0 = .ok (.aload_n 0, 1) := by decide +kernel
theorem dX7_says_1 : decode cX7_says 1 = .ok (.getfield 264, 3) := by decide +kernel
theorem dX7_says_4 : decode cX7_says 4 = .ok (.sipush 2000, 3) := by decide +kernel
theorem dX7_says_7 : decode cX7_says 7 = .ok (.if_icmp .ne 5, 3) := by decide +kernel
theorem dX7_says_10 : decode cX7_says 10 = .ok (.iconst 0, 1) := by decide +kernel
theorem dX7_says_11 : decode cX7_says 11 = .ok (.ireturn, 1) := by decide +kernel
theorem dX7_says_12 : decode cX7_says 12 = .ok (.aload_n 0, 1) := by decide +kernel
theorem dX7_says_13 : decode cX7_says 13 = .ok (.getfield 57, 3) := by decide +kernel
theorem dX7_says_16 : decode cX7_says 16 = .ok (.aload_n 0, 1) := by decide +kernel
theorem dX7_says_17 : decode cX7_says 17 = .ok (.getfield 264, 3) := by decide +kernel
theorem dX7_says_20 : decode cX7_says 20 = .ok (.iload_n 1, 1) := by decide +kernel
theorem dX7_says_21 : decode cX7_says 21 = .ok (.iastore, 1) := by decide +kernel
theorem dX7_says_22 : decode cX7_says 22 = .ok (.aload_n 0, 1) := by decide +kernel
theorem dX7_says_23 : decode cX7_says 23 = .ok (.dup, 1) := by decide +kernel
theorem dX7_says_24 : decode cX7_says 24 = .ok (.getfield 264, 3) := by decide +kernel
theorem dX7_says_27 : decode cX7_says 27 = .ok (.iconst 1, 1) := by decide +kernel
theorem dX7_says_28 : decode cX7_says 28 = .ok (.iadd, 1) := by decide +kernel
theorem dX7_says_29 : decode cX7_says 29 = .ok (.putfield 264, 3) := by decide +kernel
theorem dX7_says_32 : decode cX7_says 32 = .ok (.iconst 1, 1) := by decide +kernel
theorem dX7_says_33 : decode cX7_says 33 = .ok (.ireturn, 1) := by decide +kernel
theorem dX7_none_0 : decode cX7_none 0 = .ok (.aload_n 0, 1) := by decide +kernel
theorem dX7_none_1 : decode cX7_none 1 = .ok (.iconst 0, 1) := by decide +kernel
theorem dX7_none_2 : decode cX7_none 2 = .ok (.putfield 264, 3) := by decide +kernel
theorem dX7_none_5 : decode cX7_none 5 = .ok (.aload_n 0, 1) := by decide +kernel
theorem dX7_none_6 : decode cX7_none 6 = .ok (.iconst (-1), 1) := by decide +kernel
theorem dX7_none_7 : decode cX7_none 7 = .ok (.putfield 60, 3) := by decide +kernel
theorem dX7_none_10 : decode cX7_none 10 = .ok (.iconst (-1), 1) := by decide +kernel
theorem dX7_none_11 : decode cX7_none 11 = .ok (.ireturn, 1) := by decide +kernel
theorem dX7_lay_0 : decode cX7_lay 0 = .ok (.aload_n 0, 1) := by decide +kernel
theorem dX7_lay_1 : decode cX7_lay 1 = .ok (.iload_n 1, 1) := by decide +kernel
theorem dX7_lay_2 : decode cX7_lay 2 = .ok (.invokevirtual 216, 3) := by decide +kernel
theorem dX7_lay_5 : decode cX7_lay 5 = .ok (.ifCond .ne 5, 3) := by decide +kernel
theorem dX7_lay_8 : decode cX7_lay 8 = .ok (.iconst 0, 1) := by decide +kernel
theorem dX7_lay_9 : decode cX7_lay 9 = .ok (.ireturn, 1) := by decide +kernel
theorem dX7_lay_10 : decode cX7_lay 10 = .ok (.aload_n 0, 1) := by decide +kernel
theorem dX7_lay_11 : decode cX7_lay 11 = .ok (.invokevirtual 267, 3) := by decide +kernel
theorem dX7_lay_14 : decode cX7_lay 14 = .ok (.pop, 1) := by decide +kernel
theorem dX7_lay_15 : decode cX7_lay 15 = .ok (.aload_n 0, 1) := by decide +kernel
theorem dX7_lay_16 : decode cX7_lay 16 = .ok (.getfield 257, 3) := by decide +kernel
theorem dX7_lay_19 : decode cX7_lay 19 = .ok (.ifCond .ne 5, 3) := by decide +kernel
theorem dX7_lay_22 : decode cX7_lay 22 = .ok (.iconst (-1), 1) := by decide +kernel
theorem dX7_lay_23 : decode cX7_lay 23 = .ok (.ireturn, 1) := by decide +kernel
theorem dX7_lay_24 : decode cX7_lay 24 = .ok (.iconst 1, 1) := by decide +kernel
theorem dX7_lay_25 : decode cX7_lay 25 = .ok (.istore_n 2, 1) := by decide +kernel
theorem dX7_lay_26 : decode cX7_lay 26 = .ok (.iconst 0, 1) := by decide +kernel
theorem dX7_lay_27 : decode cX7_lay 27 = .ok (.istore_n 3, 1) := by decide +kernel
theorem dX7_lay_28 : decode cX7_lay 28 = .ok (.iload_n 3, 1) := by decide +kernel
theorem dX7_lay_29 : decode cX7_lay 29 = .ok (.aload_n 0, 1) := by decide +kernel
theorem dX7_lay_30 : decode cX7_lay 30 = .ok (.getfield 30, 3) := by decide +kernel
theorem dX7_lay_33 : decode cX7_lay 33 = .ok (.iload_n 1, 1) := by decide +kernel
theorem dX7_lay_34 : decode cX7_lay 34 = .ok (.iaload, 1) := by decide +kernel
theorem dX7_lay_35 : decode cX7_lay 35 = .ok (.if_icmp .ge 210, 3) := by decide +kernel
theorem dX7_lay_38 : decode cX7_lay 38 = .ok (.iload_n 2, 1) := by decide +kernel
theorem dX7_lay_39 : decode cX7_lay 39 = .ok (.ifCond .eq 206, 3) := by decide +kernel
theorem dX7_lay_42 : decode cX7_lay 42 = .ok (.iconst 0, 1) := by decide +kernel
theorem dX7_lay_43 : decode cX7_lay 43 = .ok (.istore 4, 2) := by decide +kernel
theorem dX7_lay_45 : decode cX7_lay 45 = .ok (.iload 4, 2) := by decide +kernel
theorem dX7_lay_47 : decode cX7_lay 47 = .ok (.aload_n 0, 1) := by decide +kernel
theorem dX7_lay_48 : decode cX7_lay 48 = .ok (.getfield 39, 3) := by decide +kernel
theorem dX7_lay_51 : decode cX7_lay 51 = .ok (.sipush 201, 3) := by decide +kernel
theorem dX7_lay_54 : decode cX7_lay 54 = .ok (.iload_n 1, 1) := by decide +kernel
theorem dX7_lay_55 : decode cX7_lay 55 = .ok (.imul, 1) := by decide +kernel
theorem dX7_lay_56 : decode cX7_lay 56 = .ok (.iload_n 3, 1) := by decide +kernel
theorem dX7_lay_57 : decode cX7_lay 57 = .ok (.iadd, 1) := by decide +kernel
theorem dX7_lay_58 : decode cX7_lay 58 = .ok (.iaload, 1) := by decide +kernel
theorem dX7_lay_59 : decode cX7_lay 59 = .ok (.if_icmp .ge 52, 3) := by decide +kernel
theorem dX7_lay_62 : decode cX7_lay 62 = .ok (.iload_n 2, 1) := by decide +kernel
theorem dX7_lay_63 : decode cX7_lay 63 = .ok (.ifCond .eq 40, 3) := by decide +kernel
theorem dX7_lay_66 : decode cX7_lay 66 = .ok (.aload_n 0, 1) := by decide +kernel
theorem dX7_lay_67 : decode cX7_lay 67 = .ok (.aload_n 0, 1) := by decide +kernel
theorem dX7_lay_68 : decode cX7_lay 68 = .ok (.getfield 21, 3) := by decide +kernel
theorem dX7_lay_71 : decode cX7_lay 71 = .ok (.sipush 800, 3) := by decide +kernel
theorem dX7_lay_74 : decode cX7_lay 74 = .ok (.iload_n 1, 1) := by decide +kernel
theorem dX7_lay_75 : decode cX7_lay 75 = .ok (.imul, 1) := by decide +kernel
theorem dX7_lay_76 : decode cX7_lay 76 = .ok (.aload_n 0, 1) := by decide +kernel
theorem dX7_lay_77 : decode cX7_lay 77 = .ok (.getfield 36, 3) := by decide +kernel
theorem dX7_lay_80 : decode cX7_lay 80 = .ok (.sipush 201, 3) := by decide +kernel
theorem dX7_lay_83 : decode cX7_lay 83 = .ok (.iload_n 1, 1) := by decide +kernel
theorem dX7_lay_84 : decode cX7_lay 84 = .ok (.imul, 1) := by decide +kernel
theorem dX7_lay_85 : decode cX7_lay 85 = .ok (.iload_n 3, 1) := by decide +kernel
theorem dX7_lay_86 : decode cX7_lay 86 = .ok (.iadd, 1) := by decide +kernel
theorem dX7_lay_87 : decode cX7_lay 87 = .ok (.iaload, 1) := by decide +kernel
theorem dX7_lay_88 : decode cX7_lay 88 = .ok (.iadd, 1) := by decide +kernel
theorem dX7_lay_89 : decode cX7_lay 89 = .ok (.iload 4, 2) := by decide +kernel
theorem dX7_lay_91 : decode cX7_lay 91 = .ok (.iadd, 1) := by decide +kernel
theorem dX7_lay_92 : decode cX7_lay 92 = .ok (.iaload, 1) := by decide +kernel
theorem dX7_lay_93 : decode cX7_lay 93 = .ok (.invokevirtual 270, 3) := by decide +kernel
theorem dX7_lay_96 : decode cX7_lay 96 = .ok (.ifCond .eq 7, 3) := by decide +kernel
theorem dX7_lay_99 : decode cX7_lay 99 = .ok (.iconst 1, 1) := by decide +kernel
theorem dX7_lay_100 : decode cX7_lay 100 = .ok (.goto 4, 3) := by decide +kernel
theorem dX7_lay_103 : decode cX7_lay 103 = .ok (.iconst 0, 1) := by decide +kernel
theorem dX7_lay_104 : decode cX7_lay 104 = .ok (.istore_n 2, 1) := by decide +kernel
theorem dX7_lay_105 : decode cX7_lay 105 = .ok (.iinc 4 1, 3) := by decide +kernel
theorem dX7_lay_108 : decode cX7_lay 108 = .ok (.goto (-63), 3) := by decide +kernel
theorem dX7_lay_111 : decode cX7_lay 111 = .ok (.iload_n 3, 1) := by decide +kernel
theorem dX7_lay_112 : decode cX7_lay 112 = .ok (.iconst 1, 1) := by decide +kernel
theorem dX7_lay_113 : decode cX7_lay 113 = .ok (.iadd, 1) := by decide +kernel
theorem dX7_lay_114 : decode cX7_lay 114 = .ok (.aload_n 0, 1) := by decide +kernel
theorem dX7_lay_115 : decode cX7_lay 115 = .ok (.getfield 30, 3) := by decide +kernel
theorem dX7_lay_118 : decode cX7_lay 118 = .ok (.iload_n 1, 1) := by decide +kernel
theorem dX7_lay_119 : decode cX7_lay 119 = .ok (.iaload, 1) := by decide +kernel
theorem dX7_lay_120 : decode cX7_lay 120 = .ok (.if_icmp .ne 6, 3) := by decide +kernel
theorem dX7_lay_123 : decode cX7_lay 123 = .ok (.goto 116, 3) := by decide +kernel
theorem dX7_lay_126 : decode cX7_lay 126 = .ok (.aload_n 0, 1) := by decide +kernel
theorem dX7_lay_127 : decode cX7_lay 127 = .ok (.iload_n 1, 1) := by decide +kernel
theorem dX7_lay_128 : decode cX7_lay 128 = .ok (.iload_n 3, 1) := by decide +kernel
theorem dX7_lay_129 : decode cX7_lay 129 = .ok (.invokevirtual 261, 3) := by decide +kernel
theorem dX7_lay_132 : decode cX7_lay 132 = .ok (.istore 4, 2) := by decide +kernel
theorem dX7_lay_134 : decode cX7_lay 134 = .ok (.iload 4, 2) := by decide +kernel
theorem dX7_lay_136 : decode cX7_lay 136 = .ok (.iconst 1, 1) := by decide +kernel
theorem dX7_lay_137 : decode cX7_lay 137 = .ok (.if_icmp .ne 22, 3) := by decide +kernel
theorem dX7_lay_140 : decode cX7_lay 140 = .ok (.iload_n 2, 1) := by decide +kernel
theorem dX7_lay_141 : decode cX7_lay 141 = .ok (.ifCond .eq 16, 3) := by decide +kernel
theorem dX7_lay_144 : decode cX7_lay 144 = .ok (.aload_n 0, 1) := by decide +kernel
theorem dX7_lay_145 : decode cX7_lay 145 = .ok (.bipush 32, 2) := by decide +kernel
theorem dX7_lay_147 : decode cX7_lay 147 = .ok (.invokevirtual 270, 3) := by decide +kernel
theorem dX7_lay_150 : decode cX7_lay 150 = .ok (.ifCond .eq 7, 3) := by decide +kernel
theorem dX7_lay_153 : decode cX7_lay 153 = .ok (.iconst 1, 1) := by decide +kernel
theorem dX7_lay_154 : decode cX7_lay 154 = .ok (.goto 4, 3) := by decide +kernel
theorem dX7_lay_157 : decode cX7_lay 157 = .ok (.iconst 0, 1) := by decide +kernel
theorem dX7_lay_158 : decode cX7_lay 158 = .ok (.istore_n 2, 1) := by decide +kernel
theorem dX7_lay_159 : decode cX7_lay 159 = .ok (.iload 4, 2) := by decide +kernel
theorem dX7_lay_161 : decode cX7_lay 161 = .ok (.iconst 2, 1) := by decide +kernel
theorem dX7_lay_162 : decode cX7_lay 162 = .ok (.if_icmp .ne 22, 3) := by decide +kernel
theorem dX7_lay_165 : decode cX7_lay 165 = .ok (.iload_n 2, 1) := by decide +kernel
theorem dX7_lay_166 : decode cX7_lay 166 = .ok (.ifCond .eq 16, 3) := by decide +kernel
theorem dX7_lay_169 : decode cX7_lay 169 = .ok (.aload_n 0, 1) := by decide +kernel
theorem dX7_lay_170 : decode cX7_lay 170 = .ok (.bipush 10, 2) := by decide +kernel
theorem dX7_lay_172 : decode cX7_lay 172 = .ok (.invokevirtual 270, 3) := by decide +kernel
theorem dX7_lay_175 : decode cX7_lay 175 = .ok (.ifCond .eq 7, 3) := by decide +kernel
theorem dX7_lay_178 : decode cX7_lay 178 = .ok (.iconst 1, 1) := by decide +kernel
theorem dX7_lay_179 : decode cX7_lay 179 = .ok (.goto 4, 3) := by decide +kernel
theorem dX7_lay_182 : decode cX7_lay 182 = .ok (.iconst 0, 1) := by decide +kernel
theorem dX7_lay_183 : decode cX7_lay 183 = .ok (.istore_n 2, 1) := by decide +kernel
theorem dX7_lay_184 : decode cX7_lay 184 = .ok (.iconst 0, 1) := by decide +kernel
theorem dX7_lay_185 : decode cX7_lay 185 = .ok (.istore 5, 2) := by decide +kernel
theorem dX7_lay_187 : decode cX7_lay 187 = .ok (.iload 4, 2) := by decide +kernel
theorem dX7_lay_189 : decode cX7_lay 189 = .ok (.iconst 2, 1) := by decide +kernel
theorem dX7_lay_190 : decode cX7_lay 190 = .ok (.if_icmp .ne 49, 3) := by decide +kernel
theorem dX7_lay_193 : decode cX7_lay 193 = .ok (.iload 5, 2) := by decide +kernel
theorem dX7_lay_195 : decode cX7_lay 195 = .ok (.iconst 2, 1) := by decide +kernel
theorem dX7_lay_196 : decode cX7_lay 196 = .ok (.aload_n 0, 1) := by decide +kernel
theorem dX7_lay_197 : decode cX7_lay 197 = .ok (.getfield 45, 3) := by decide +kernel
theorem dX7_lay_200 : decode cX7_lay 200 = .ok (.sipush 201, 3) := by decide +kernel
theorem dX7_lay_203 : decode cX7_lay 203 = .ok (.iload_n 1, 1) := by decide +kernel
theorem dX7_lay_204 : decode cX7_lay 204 = .ok (.imul, 1) := by decide +kernel
theorem dX7_lay_205 : decode cX7_lay 205 = .ok (.iload_n 3, 1) := by decide +kernel
theorem dX7_lay_206 : decode cX7_lay 206 = .ok (.iadd, 1) := by decide +kernel
theorem dX7_lay_207 : decode cX7_lay 207 = .ok (.iconst 1, 1) := by decide +kernel
theorem dX7_lay_208 : decode cX7_lay 208 = .ok (.iadd, 1) := by decide +kernel
theorem dX7_lay_209 : decode cX7_lay 209 = .ok (.iaload, 1) := by decide +kernel
theorem dX7_lay_210 : decode cX7_lay 210 = .ok (.imul, 1) := by decide +kernel
theorem dX7_lay_211 : decode cX7_lay 211 = .ok (.if_icmp .ge 28, 3) := by decide +kernel
theorem dX7_lay_214 : decode cX7_lay 214 = .ok (.iload_n 2, 1) := by decide +kernel
theorem dX7_lay_215 : decode cX7_lay 215 = .ok (.ifCond .eq 16, 3) := by decide +kernel
theorem dX7_lay_218 : decode cX7_lay 218 = .ok (.aload_n 0, 1) := by decide +kernel
theorem dX7_lay_219 : decode cX7_lay 219 = .ok (.bipush 32, 2) := by decide +kernel
theorem dX7_lay_221 : decode cX7_lay 221 = .ok (.invokevirtual 270, 3) := by decide +kernel
theorem dX7_lay_224 : decode cX7_lay 224 = .ok (.ifCond .eq 7, 3) := by decide +kernel
theorem dX7_lay_227 : decode cX7_lay 227 = .ok (.iconst 1, 1) := by decide +kernel
theorem dX7_lay_228 : decode cX7_lay 228 = .ok (.goto 4, 3) := by decide +kernel
theorem dX7_lay_231 : decode cX7_lay 231 = .ok (.iconst 0, 1) := by decide +kernel
theorem dX7_lay_232 : decode cX7_lay 232 = .ok (.istore_n 2, 1) := by decide +kernel
theorem dX7_lay_233 : decode cX7_lay 233 = .ok (.iinc 5 1, 3) := by decide +kernel
theorem dX7_lay_236 : decode cX7_lay 236 = .ok (.goto (-49), 3) := by decide +kernel
theorem dX7_lay_239 : decode cX7_lay 239 = .ok (.iinc 3 1, 3) := by decide +kernel
theorem dX7_lay_242 : decode cX7_lay 242 = .ok (.goto (-214), 3) := by decide +kernel
theorem dX7_lay_245 : decode cX7_lay 245 = .ok (.iload_n 2, 1) := by decide +kernel
theorem dX7_lay_246 : decode cX7_lay 246 = .ok (.ifCond .ne 8, 3) := by decide +kernel
theorem dX7_lay_249 : decode cX7_lay 249 = .ok (.aload_n 0, 1) := by decide +kernel
theorem dX7_lay_250 : decode cX7_lay 250 = .ok (.invokevirtual 267, 3) := by decide +kernel
theorem dX7_lay_253 : decode cX7_lay 253 = .ok (.ireturn, 1) := by decide +kernel
theorem dX7_lay_254 : decode cX7_lay 254 = .ok (.aload_n 0, 1) := by decide +kernel
theorem dX7_lay_255 : decode cX7_lay 255 = .ok (.iload_n 1, 1) := by decide +kernel
theorem dX7_lay_256 : decode cX7_lay 256 = .ok (.putfield 60, 3) := by decide +kernel
theorem dX7_lay_259 : decode cX7_lay 259 = .ok (.aload_n 0, 1) := by decide +kernel
theorem dX7_lay_260 : decode cX7_lay 260 = .ok (.getfield 264, 3) := by decide +kernel
theorem dX7_lay_263 : decode cX7_lay 263 = .ok (.ireturn, 1) := by decide +kernel
theorem dX7_small_0 : decode cX7_small 0 = .ok (.iload_n 0, 1) := by decide +kernel
theorem dX7_small_1 : decode cX7_small 1 = .ok (.bipush 65, 2) := by decide +kernel
theorem dX7_small_3 : decode cX7_small 3 = .ok (.if_icmp .lt 16, 3) := by decide +kernel
theorem dX7_small_6 : decode cX7_small 6 = .ok (.iload_n 0, 1) := by decide +kernel
theorem dX7_small_7 : decode cX7_small 7 = .ok (.bipush 90, 2) := by decide +kernel
theorem dX7_small_9 : decode cX7_small 9 = .ok (.if_icmp .gt 10, 3) := by decide +kernel
theorem dX7_small_12 : decode cX7_small 12 = .ok (.iload_n 0, 1) := by decide +kernel
theorem dX7_small_13 : decode cX7_small 13 = .ok (.bipush 32, 2) := by decide +kernel
theorem dX7_small_15 : decode cX7_small 15 = .ok (.iadd, 1) := by decide +kernel
theorem dX7_small_16 : decode cX7_small 16 = .ok (.goto 4, 3) := by decide +kernel
theorem dX7_small_19 : decode cX7_small 19 = .ok (.iload_n 0, 1) := by decide +kernel
theorem dX7_small_20 : decode cX7_small 20 = .ok (.ireturn, 1) := by decide +kernel
theorem dX7_great_0 : decode cX7_great 0 = .ok (.iload_n 0, 1) := by decide +kernel
theorem dX7_great_1 : decode cX7_great 1 = .ok (.bipush 97, 2) := by decide +kernel
theorem dX7_great_3 : decode cX7_great 3 = .ok (.if_icmp .lt 16, 3) := by decide +kernel
theorem dX7_great_6 : decode cX7_great 6 = .ok (.iload_n 0, 1) := by decide +kernel
theorem dX7_great_7 : decode cX7_great 7 = .ok (.bipush 122, 2) := by decide +kernel
theorem dX7_great_9 : decode cX7_great 9 = .ok (.if_icmp .gt 10, 3) := by decide +kernel
theorem dX7_great_12 : decode cX7_great 12 = .ok (.iload_n 0, 1) := by decide +kernel
theorem dX7_great_13 : decode cX7_great 13 = .ok (.bipush 32, 2) := by decide +kernel
theorem dX7_great_15 : decode cX7_great 15 = .ok (.isub, 1) := by decide +kernel
theorem dX7_great_16 : decode cX7_great 16 = .ok (.goto 4, 3) := by decide +kernel
theorem dX7_great_19 : decode cX7_great 19 = .ok (.iload_n 0, 1) := by decide +kernel
theorem dX7_great_20 : decode cX7_great 20 = .ok (.ireturn, 1) := by decide +kernel
theorem dX7_makes_0 : decode cX7_makes 0 = .ok (.aload_n 0, 1) := by decide +kernel
theorem dX7_makes_1 : decode cX7_makes 1 = .ok (.iconst 0, 1) := by decide +kernel
theorem dX7_makes_2 : decode cX7_makes 2 = .ok (.putfield 273, 3) := by decide +kernel
theorem dX7_makes_5 : decode cX7_makes 5 = .ok (.aload_n 0, 1) := by decide +kernel
theorem dX7_makes_6 : decode cX7_makes 6 = .ok (.iconst 0, 1) := by decide +kernel
theorem dX7_makes_7 : decode cX7_makes 7 = .ok (.putfield 276, 3) := by decide +kernel
theorem dX7_makes_10 : decode cX7_makes 10 = .ok (.iconst 1, 1) := by decide +kernel
theorem dX7_makes_11 : decode cX7_makes 11 = .ok (.istore 4, 2) := by decide +kernel
theorem dX7_makes_13 : decode cX7_makes 13 = .ok (.iconst 0, 1) := by decide +kernel
theorem dX7_makes_14 : decode cX7_makes 14 = .ok (.istore 5, 2) := by decide +kernel
theorem dX7_makes_16 : decode cX7_makes 16 = .ok (.iload 5, 2) := by decide +kernel
theorem dX7_makes_18 : decode cX7_makes 18 = .ok (.aload_n 0, 1) := by decide +kernel
theorem dX7_makes_19 : decode cX7_makes 19 = .ok (.getfield 39, 3) := by decide +kernel
theorem dX7_makes_22 : decode cX7_makes 22 = .ok (.sipush 201, 3) := by decide +kernel
theorem dX7_makes_25 : decode cX7_makes 25 = .ok (.iload_n 1, 1) := by decide +kernel
theorem dX7_makes_26 : decode cX7_makes 26 = .ok (.imul, 1) := by decide +kernel
theorem dX7_makes_27 : decode cX7_makes 27 = .ok (.iload_n 2, 1) := by decide +kernel
theorem dX7_makes_28 : decode cX7_makes 28 = .ok (.iadd, 1) := by decide +kernel
theorem dX7_makes_29 : decode cX7_makes 29 = .ok (.iaload, 1) := by decide +kernel
theorem dX7_makes_30 : decode cX7_makes 30 = .ok (.if_icmp .ge 177, 3) := by decide +kernel
theorem dX7_makes_33 : decode cX7_makes 33 = .ok (.aload_n 0, 1) := by decide +kernel
theorem dX7_makes_34 : decode cX7_makes 34 = .ok (.getfield 21, 3) := by decide +kernel
theorem dX7_makes_37 : decode cX7_makes 37 = .ok (.sipush 800, 3) := by decide +kernel
theorem dX7_makes_40 : decode cX7_makes 40 = .ok (.iload_n 1, 1) := by decide +kernel
theorem dX7_makes_41 : decode cX7_makes 41 = .ok (.imul, 1) := by decide +kernel
theorem dX7_makes_42 : decode cX7_makes 42 = .ok (.aload_n 0, 1) := by decide +kernel
theorem dX7_makes_43 : decode cX7_makes 43 = .ok (.getfield 36, 3) := by decide +kernel
theorem dX7_makes_46 : decode cX7_makes 46 = .ok (.sipush 201, 3) := by decide +kernel
theorem dX7_makes_49 : decode cX7_makes 49 = .ok (.iload_n 1, 1) := by decide +kernel
theorem dX7_makes_50 : decode cX7_makes 50 = .ok (.imul, 1) := by decide +kernel
theorem dX7_makes_51 : decode cX7_makes 51 = .ok (.iload_n 2, 1) := by decide +kernel
theorem dX7_makes_52 : decode cX7_makes 52 = .ok (.iadd, 1) := by decide +kernel
theorem dX7_makes_53 : decode cX7_makes 53 = .ok (.iaload, 1) := by decide +kernel
theorem dX7_makes_54 : decode cX7_makes 54 = .ok (.iadd, 1) := by decide +kernel
theorem dX7_makes_55 : decode cX7_makes 55 = .ok (.iload 5, 2) := by decide +kernel
theorem dX7_makes_57 : decode cX7_makes 57 = .ok (.iadd, 1) := by decide +kernel
theorem dX7_makes_58 : decode cX7_makes 58 = .ok (.iaload, 1) := by decide +kernel
theorem dX7_makes_59 : decode cX7_makes 59 = .ok (.istore 6, 2) := by decide +kernel
theorem dX7_makes_61 : decode cX7_makes 61 = .ok (.iload 6, 2) := by decide +kernel
theorem dX7_makes_63 : decode cX7_makes 63 = .ok (.bipush 95, 2) := by decide +kernel
theorem dX7_makes_65 : decode cX7_makes 65 = .ok (.if_icmp .ne 9, 3) := by decide +kernel
theorem dX7_makes_68 : decode cX7_makes 68 = .ok (.iconst 1, 1) := by decide +kernel
theorem dX7_makes_69 : decode cX7_makes 69 = .ok (.istore 4, 2) := by decide +kernel
theorem dX7_makes_71 : decode cX7_makes 71 = .ok (.goto 130, 3) := by decide +kernel
theorem dX7_makes_74 : decode cX7_makes 74 = .ok (.iload 4, 2) := by decide +kernel
theorem dX7_makes_76 : decode cX7_makes 76 = .ok (.ifCond .ne 17, 3) := by decide +kernel
theorem dX7_makes_79 : decode cX7_makes 79 = .ok (.iload 6, 2) := by decide +kernel
theorem dX7_makes_81 : decode cX7_makes 81 = .ok (.bipush 65, 2) := by decide +kernel
theorem dX7_makes_83 : decode cX7_makes 83 = .ok (.if_icmp .lt 91, 3) := by decide +kernel
theorem dX7_makes_86 : decode cX7_makes 86 = .ok (.iload 6, 2) := by decide +kernel
theorem dX7_makes_88 : decode cX7_makes 88 = .ok (.bipush 90, 2) := by decide +kernel
theorem dX7_makes_90 : decode cX7_makes 90 = .ok (.if_icmp .gt 84, 3) := by decide +kernel
theorem dX7_makes_93 : decode cX7_makes 93 = .ok (.aload_n 0, 1) := by decide +kernel
theorem dX7_makes_94 : decode cX7_makes 94 = .ok (.dup, 1) := by decide +kernel
theorem dX7_makes_95 : decode cX7_makes 95 = .ok (.getfield 276, 3) := by decide +kernel
theorem dX7_makes_98 : decode cX7_makes 98 = .ok (.iconst 1, 1) := by decide +kernel
theorem dX7_makes_99 : decode cX7_makes 99 = .ok (.iadd, 1) := by decide +kernel
theorem dX7_makes_100 : decode cX7_makes 100 = .ok (.putfield 276, 3) := by decide +kernel
theorem dX7_makes_103 : decode cX7_makes 103 = .ok (.iload_n 3, 1) := by decide +kernel
theorem dX7_makes_104 : decode cX7_makes 104 = .ok (.ifCond .ne 32, 3) := by decide +kernel
theorem dX7_makes_107 : decode cX7_makes 107 = .ok (.aload_n 0, 1) := by decide +kernel
theorem dX7_makes_108 : decode cX7_makes 108 = .ok (.getfield 276, 3) := by decide +kernel
theorem dX7_makes_111 : decode cX7_makes 111 = .ok (.iconst 1, 1) := by decide +kernel
theorem dX7_makes_112 : decode cX7_makes 112 = .ok (.if_icmp .le 24, 3) := by decide +kernel
theorem dX7_makes_115 : decode cX7_makes 115 = .ok (.aload_n 0, 1) := by decide +kernel
theorem dX7_makes_116 : decode cX7_makes 116 = .ok (.getfield 72, 3) := by decide +kernel
theorem dX7_makes_119 : decode cX7_makes 119 = .ok (.aload_n 0, 1) := by decide +kernel
theorem dX7_makes_120 : decode cX7_makes 120 = .ok (.getfield 273, 3) := by decide +kernel
theorem dX7_makes_123 : decode cX7_makes 123 = .ok (.bipush 95, 2) := by decide +kernel
theorem dX7_makes_125 : decode cX7_makes 125 = .ok (.iastore, 1) := by decide +kernel
theorem dX7_makes_126 : decode cX7_makes 126 = .ok (.aload_n 0, 1) := by decide +kernel
theorem dX7_makes_127 : decode cX7_makes 127 = .ok (.dup, 1) := by decide +kernel
theorem dX7_makes_128 : decode cX7_makes 128 = .ok (.getfield 273, 3) := by decide +kernel
theorem dX7_makes_131 : decode cX7_makes 131 = .ok (.iconst 1, 1) := by decide +kernel
theorem dX7_makes_132 : decode cX7_makes 132 = .ok (.iadd, 1) := by decide +kernel
theorem dX7_makes_133 : decode cX7_makes 133 = .ok (.putfield 273, 3) := by decide +kernel
theorem dX7_makes_136 : decode cX7_makes 136 = .ok (.aload_n 0, 1) := by decide +kernel
theorem dX7_makes_137 : decode cX7_makes 137 = .ok (.getfield 72, 3) := by decide +kernel
theorem dX7_makes_140 : decode cX7_makes 140 = .ok (.aload_n 0, 1) := by decide +kernel
theorem dX7_makes_141 : decode cX7_makes 141 = .ok (.getfield 273, 3) := by decide +kernel
theorem dX7_makes_144 : decode cX7_makes 144 = .ok (.iload_n 3, 1) := by decide +kernel
theorem dX7_makes_145 : decode cX7_makes 145 = .ok (.iconst 1, 1) := by decide +kernel
theorem dX7_makes_146 : decode cX7_makes 146 = .ok (.if_icmp .ne 19, 3) := by decide +kernel
theorem dX7_makes_149 : decode cX7_makes 149 = .ok (.aload_n 0, 1) := by decide +kernel
theorem dX7_makes_150 : decode cX7_makes 150 = .ok (.getfield 276, 3) := by decide +kernel
theorem dX7_makes_153 : decode cX7_makes 153 = .ok (.iconst 1, 1) := by decide +kernel
theorem dX7_makes_154 : decode cX7_makes 154 = .ok (.if_icmp .le 11, 3) := by decide +kernel
theorem dX7_makes_157 : decode cX7_makes 157 = .ok (.iload 6, 2) := by decide +kernel
theorem dX7_makes_159 : decode cX7_makes 159 = .ok (.invokestatic 279, 3) := by decide +kernel
theorem dX7_makes_162 : decode cX7_makes 162 = .ok (.goto 8, 3) := by decide +kernel
theorem dX7_makes_165 : decode cX7_makes 165 = .ok (.iload 6, 2) := by decide +kernel
theorem dX7_makes_167 : decode cX7_makes 167 = .ok (.invokestatic 282, 3) := by decide +kernel
theorem dX7_makes_170 : decode cX7_makes 170 = .ok (.iastore, 1) := by decide +kernel
theorem dX7_makes_171 : decode cX7_makes 171 = .ok (.goto 17, 3) := by decide +kernel
theorem dX7_makes_174 : decode cX7_makes 174 = .ok (.aload_n 0, 1) := by decide +kernel
theorem dX7_makes_175 : decode cX7_makes 175 = .ok (.getfield 72, 3) := by decide +kernel
theorem dX7_makes_178 : decode cX7_makes 178 = .ok (.aload_n 0, 1) := by decide +kernel
theorem dX7_makes_179 : decode cX7_makes 179 = .ok (.getfield 273, 3) := by decide +kernel
theorem dX7_makes_182 : decode cX7_makes 182 = .ok (.iload 6, 2) := by decide +kernel
theorem dX7_makes_184 : decode cX7_makes 184 = .ok (.invokestatic 282, 3) := by decide +kernel
theorem dX7_makes_187 : decode cX7_makes 187 = .ok (.iastore, 1) := by decide +kernel
theorem dX7_makes_188 : decode cX7_makes 188 = .ok (.aload_n 0, 1) := by decide +kernel
theorem dX7_makes_189 : decode cX7_makes 189 = .ok (.dup, 1) := by decide +kernel
theorem dX7_makes_190 : decode cX7_makes 190 = .ok (.getfield 273, 3) := by decide +kernel
theorem dX7_makes_193 : decode cX7_makes 193 = .ok (.iconst 1, 1) := by decide +kernel
theorem dX7_makes_194 : decode cX7_makes 194 = .ok (.iadd, 1) := by decide +kernel
theorem dX7_makes_195 : decode cX7_makes 195 = .ok (.putfield 273, 3) := by decide +kernel
theorem dX7_makes_198 : decode cX7_makes 198 = .ok (.iconst 0, 1) := by decide +kernel
theorem dX7_makes_199 : decode cX7_makes 199 = .ok (.istore 4, 2) := by decide +kernel
theorem dX7_makes_201 : decode cX7_makes 201 = .ok (.iinc 5 1, 3) := by decide +kernel
theorem dX7_makes_204 : decode cX7_makes 204 = .ok (.goto (-188), 3) := by decide +kernel
theorem dX7_makes_207 : decode cX7_makes 207 = .ok (.return_, 1) := by decide +kernel
theorem dX7_isNameAt_0 : decode cX7_isNameAt 0 = .ok (.aload_n 0, 1) := by decide +kernel
theorem dX7_isNameAt_1 : decode cX7_isNameAt 1 = .ok (.getfield 42, 3) := by decide +kernel
theorem dX7_isNameAt_4 : decode cX7_isNameAt 4 = .ok (.sipush 201, 3) := by decide +kernel
theorem dX7_isNameAt_7 : decode cX7_isNameAt 7 = .ok (.iload_n 1, 1) := by decide +kernel
theorem dX7_isNameAt_8 : decode cX7_isNameAt 8 = .ok (.imul, 1) := by decide +kernel
theorem dX7_isNameAt_9 : decode cX7_isNameAt 9 = .ok (.iload_n 2, 1) := by decide +kernel
theorem dX7_isNameAt_10 : decode cX7_isNameAt 10 = .ok (.iadd, 1) := by decide +kernel
theorem dX7_isNameAt_11 : decode cX7_isNameAt 11 = .ok (.iaload, 1) := by decide +kernel
theorem dX7_isNameAt_12 : decode cX7_isNameAt 12 = .ok (.ifCond .ne 51, 3) := by decide +kernel
theorem dX7_isNameAt_15 : decode cX7_isNameAt 15 = .ok (.aload_n 0, 1) := by decide +kernel
theorem dX7_isNameAt_16 : decode cX7_isNameAt 16 = .ok (.iload_n 1, 1) := by decide +kernel
theorem dX7_isNameAt_17 : decode cX7_isNameAt 17 = .ok (.iload_n 2, 1) := by decide +kernel
theorem dX7_isNameAt_18 : decode cX7_isNameAt 18 = .ok (.ldc 130, 2) := by decide +kernel
theorem dX7_isNameAt_20 : decode cX7_isNameAt 20 = .ok (.invokevirtual 285, 3) := by decide +kernel
theorem dX7_isNameAt_23 : decode cX7_isNameAt 23 = .ok (.ifCond .ne 40, 3) := by decide +kernel
theorem dX7_isNameAt_26 : decode cX7_isNameAt 26 = .ok (.aload_n 0, 1) := by decide +kernel
theorem dX7_isNameAt_27 : decode cX7_isNameAt 27 = .ok (.iload_n 1, 1) := by decide +kernel
theorem dX7_isNameAt_28 : decode cX7_isNameAt 28 = .ok (.iload_n 2, 1) := by decide +kernel
theorem dX7_isNameAt_29 : decode cX7_isNameAt 29 = .ok (.ldc 136, 2) := by decide +kernel
theorem dX7_isNameAt_31 : decode cX7_isNameAt 31 = .ok (.invokevirtual 285, 3) := by decide +kernel
theorem dX7_isNameAt_34 : decode cX7_isNameAt 34 = .ok (.ifCond .ne 29, 3) := by decide +kernel
theorem dX7_isNameAt_37 : decode cX7_isNameAt 37 = .ok (.aload_n 0, 1) := by decide +kernel
theorem dX7_isNameAt_38 : decode cX7_isNameAt 38 = .ok (.iload_n 1, 1) := by decide +kernel
theorem dX7_isNameAt_39 : decode cX7_isNameAt 39 = .ok (.iload_n 2, 1) := by decide +kernel
theorem dX7_isNameAt_40 : decode cX7_isNameAt 40 = .ok (.ldc 138, 2) := by decide +kernel
theorem dX7_isNameAt_42 : decode cX7_isNameAt 42 = .ok (.invokevirtual 285, 3) := by decide +kernel
theorem dX7_isNameAt_45 : decode cX7_isNameAt 45 = .ok (.ifCond .ne 18, 3) := by decide +kernel
theorem dX7_isNameAt_48 : decode cX7_isNameAt 48 = .ok (.aload_n 0, 1) := by decide +kernel
theorem dX7_isNameAt_49 : decode cX7_isNameAt 49 = .ok (.iload_n 1, 1) := by decide +kernel
theorem dX7_isNameAt_50 : decode cX7_isNameAt 50 = .ok (.iload_n 2, 1) := by decide +kernel
theorem dX7_isNameAt_51 : decode cX7_isNameAt 51 = .ok (.ldc 140, 2) := by decide +kernel
theorem dX7_isNameAt_53 : decode cX7_isNameAt 53 = .ok (.invokevirtual 285, 3) := by decide +kernel
theorem dX7_isNameAt_56 : decode cX7_isNameAt 56 = .ok (.ifCond .ne 7, 3) := by decide +kernel
theorem dX7_isNameAt_59 : decode cX7_isNameAt 59 = .ok (.iconst 1, 1) := by decide +kernel
theorem dX7_isNameAt_60 : decode cX7_isNameAt 60 = .ok (.goto 4, 3) := by decide +kernel
theorem dX7_isNameAt_63 : decode cX7_isNameAt 63 = .ok (.iconst 0, 1) := by decide +kernel
theorem dX7_isNameAt_64 : decode cX7_isNameAt 64 = .ok (.ireturn, 1) := by decide +kernel
theorem dX7_isWordAt_0 : decode cX7_isWordAt 0 = .ok (.aload_n 0, 1) := by decide +kernel
theorem dX7_isWordAt_1 : decode cX7_isWordAt 1 = .ok (.getfield 39, 3) := by decide +kernel
theorem dX7_isWordAt_4 : decode cX7_isWordAt 4 = .ok (.sipush 201, 3) := by decide +kernel
theorem dX7_isWordAt_7 : decode cX7_isWordAt 7 = .ok (.iload_n 1, 1) := by decide +kernel
theorem dX7_isWordAt_8 : decode cX7_isWordAt 8 = .ok (.imul, 1) := by decide +kernel
theorem dX7_isWordAt_9 : decode cX7_isWordAt 9 = .ok (.iload_n 2, 1) := by decide +kernel
theorem dX7_isWordAt_10 : decode cX7_isWordAt 10 = .ok (.iadd, 1) := by decide +kernel
theorem dX7_isWordAt_11 : decode cX7_isWordAt 11 = .ok (.iaload, 1) := by decide +kernel
theorem dX7_isWordAt_12 : decode cX7_isWordAt 12 = .ok (.aload_n 3, 1) := by decide +kernel
theorem dX7_isWordAt_13 : decode cX7_isWordAt 13 = .ok (.invokevirtual 122, 3) := by decide +kernel
theorem dX7_isWordAt_16 : decode cX7_isWordAt 16 = .ok (.if_icmp .ne 7, 3) := by decide +kernel
theorem dX7_isWordAt_19 : decode cX7_isWordAt 19 = .ok (.iconst 1, 1) := by decide +kernel
theorem dX7_isWordAt_20 : decode cX7_isWordAt 20 = .ok (.goto 4, 3) := by decide +kernel
theorem dX7_isWordAt_23 : decode cX7_isWordAt 23 = .ok (.iconst 0, 1) := by decide +kernel
theorem dX7_isWordAt_24 : decode cX7_isWordAt 24 = .ok (.istore 4, 2) := by decide +kernel
theorem dX7_isWordAt_26 : decode cX7_isWordAt 26 = .ok (.iconst 0, 1) := by decide +kernel
theorem dX7_isWordAt_27 : decode cX7_isWordAt 27 = .ok (.istore 5, 2) := by decide +kernel
theorem dX7_isWordAt_29 : decode cX7_isWordAt 29 = .ok (.iload 5, 2) := by decide +kernel
theorem dX7_isWordAt_31 : decode cX7_isWordAt 31 = .ok (.aload_n 3, 1) := by decide +kernel
theorem dX7_isWordAt_32 : decode cX7_isWordAt 32 = .ok (.invokevirtual 122, 3) := by decide +kernel
theorem dX7_isWordAt_35 : decode cX7_isWordAt 35 = .ok (.if_icmp .ge 56, 3) := by decide +kernel
theorem dX7_isWordAt_38 : decode cX7_isWordAt 38 = .ok (.iload 4, 2) := by decide +kernel
theorem dX7_isWordAt_40 : decode cX7_isWordAt 40 = .ok (.ifCond .eq 51, 3) := by decide +kernel
theorem dX7_isWordAt_43 : decode cX7_isWordAt 43 = .ok (.aload_n 0, 1) := by decide +kernel
theorem dX7_isWordAt_44 : decode cX7_isWordAt 44 = .ok (.getfield 21, 3) := by decide +kernel
theorem dX7_isWordAt_47 : decode cX7_isWordAt 47 = .ok (.sipush 800, 3) := by decide +kernel
theorem dX7_isWordAt_50 : decode cX7_isWordAt 50 = .ok (.iload_n 1, 1) := by decide +kernel
theorem dX7_isWordAt_51 : decode cX7_isWordAt 51 = .ok (.imul, 1) := by decide +kernel
theorem dX7_isWordAt_52 : decode cX7_isWordAt 52 = .ok (.aload_n 0, 1) := by decide +kernel
theorem dX7_isWordAt_53 : decode cX7_isWordAt 53 = .ok (.getfield 36, 3) := by decide +kernel
theorem dX7_isWordAt_56 : decode cX7_isWordAt 56 = .ok (.sipush 201, 3) := by decide +kernel
theorem dX7_isWordAt_59 : decode cX7_isWordAt 59 = .ok (.iload_n 1, 1) := by decide +kernel
theorem dX7_isWordAt_60 : decode cX7_isWordAt 60 = .ok (.imul, 1) := by decide +kernel
theorem dX7_isWordAt_61 : decode cX7_isWordAt 61 = .ok (.iload_n 2, 1) := by decide +kernel
theorem dX7_isWordAt_62 : decode cX7_isWordAt 62 = .ok (.iadd, 1) := by decide +kernel
theorem dX7_isWordAt_63 : decode cX7_isWordAt 63 = .ok (.iaload, 1) := by decide +kernel
theorem dX7_isWordAt_64 : decode cX7_isWordAt 64 = .ok (.iadd, 1) := by decide +kernel
theorem dX7_isWordAt_65 : decode cX7_isWordAt 65 = .ok (.iload 5, 2) := by decide +kernel
theorem dX7_isWordAt_67 : decode cX7_isWordAt 67 = .ok (.iadd, 1) := by decide +kernel
theorem dX7_isWordAt_68 : decode cX7_isWordAt 68 = .ok (.iaload, 1) := by decide +kernel
theorem dX7_isWordAt_69 : decode cX7_isWordAt 69 = .ok (.aload_n 3, 1) := by decide +kernel
theorem dX7_isWordAt_70 : decode cX7_isWordAt 70 = .ok (.iload 5, 2) := by decide +kernel
theorem dX7_isWordAt_72 : decode cX7_isWordAt 72 = .ok (.invokevirtual 126, 3) := by decide +kernel
theorem dX7_isWordAt_75 : decode cX7_isWordAt 75 = .ok (.if_icmp .ne 7, 3) := by decide +kernel
theorem dX7_isWordAt_78 : decode cX7_isWordAt 78 = .ok (.iconst 1, 1) := by decide +kernel
theorem dX7_isWordAt_79 : decode cX7_isWordAt 79 = .ok (.goto 4, 3) := by decide +kernel
theorem dX7_isWordAt_82 : decode cX7_isWordAt 82 = .ok (.iconst 0, 1) := by decide +kernel
theorem dX7_isWordAt_83 : decode cX7_isWordAt 83 = .ok (.istore 4, 2) := by decide +kernel
theorem dX7_isWordAt_85 : decode cX7_isWordAt 85 = .ok (.iinc 5 1, 3) := by decide +kernel
theorem dX7_isWordAt_88 : decode cX7_isWordAt 88 = .ok (.goto (-59), 3) := by decide +kernel
theorem dX7_isWordAt_91 : decode cX7_isWordAt 91 = .ok (.iload 4, 2) := by decide +kernel
theorem dX7_isWordAt_93 : decode cX7_isWordAt 93 = .ok (.ireturn, 1) := by decide +kernel
theorem dX7_isMade_0 : decode cX7_isMade 0 = .ok (.aload_n 0, 1) := by decide +kernel
theorem dX7_isMade_1 : decode cX7_isMade 1 = .ok (.getfield 273, 3) := by decide +kernel
theorem dX7_isMade_4 : decode cX7_isMade 4 = .ok (.aload_n 1, 1) := by decide +kernel
theorem dX7_isMade_5 : decode cX7_isMade 5 = .ok (.invokevirtual 122, 3) := by decide +kernel
theorem dX7_isMade_8 : decode cX7_isMade 8 = .ok (.if_icmp .ne 7, 3) := by decide +kernel
theorem dX7_isMade_11 : decode cX7_isMade 11 = .ok (.iconst 1, 1) := by decide +kernel
theorem dX7_isMade_12 : decode cX7_isMade 12 = .ok (.goto 4, 3) := by decide +kernel
theorem dX7_isMade_15 : decode cX7_isMade 15 = .ok (.iconst 0, 1) := by decide +kernel
theorem dX7_isMade_16 : decode cX7_isMade 16 = .ok (.istore_n 2, 1) := by decide +kernel
theorem dX7_isMade_17 : decode cX7_isMade 17 = .ok (.iconst 0, 1) := by decide +kernel
theorem dX7_isMade_18 : decode cX7_isMade 18 = .ok (.istore_n 3, 1) := by decide +kernel
theorem dX7_isMade_19 : decode cX7_isMade 19 = .ok (.iload_n 3, 1) := by decide +kernel
theorem dX7_isMade_20 : decode cX7_isMade 20 = .ok (.aload_n 1, 1) := by decide +kernel
theorem dX7_isMade_21 : decode cX7_isMade 21 = .ok (.invokevirtual 122, 3) := by decide +kernel
theorem dX7_isMade_24 : decode cX7_isMade 24 = .ok (.if_icmp .ge 33, 3) := by decide +kernel
theorem dX7_isMade_27 : decode cX7_isMade 27 = .ok (.iload_n 2, 1) := by decide +kernel
theorem dX7_isMade_28 : decode cX7_isMade 28 = .ok (.ifCond .eq 29, 3) := by decide +kernel
theorem dX7_isMade_31 : decode cX7_isMade 31 = .ok (.aload_n 0, 1) := by decide +kernel
theorem dX7_isMade_32 : decode cX7_isMade 32 = .ok (.getfield 72, 3) := by decide +kernel
theorem dX7_isMade_35 : decode cX7_isMade 35 = .ok (.iload_n 3, 1) := by decide +kernel
theorem dX7_isMade_36 : decode cX7_isMade 36 = .ok (.iaload, 1) := by decide +kernel
theorem dX7_isMade_37 : decode cX7_isMade 37 = .ok (.aload_n 1, 1) := by decide +kernel
theorem dX7_isMade_38 : decode cX7_isMade 38 = .ok (.iload_n 3, 1) := by decide +kernel
theorem dX7_isMade_39 : decode cX7_isMade 39 = .ok (.invokevirtual 126, 3) := by decide +kernel
theorem dX7_isMade_42 : decode cX7_isMade 42 = .ok (.if_icmp .ne 7, 3) := by decide +kernel
theorem dX7_isMade_45 : decode cX7_isMade 45 = .ok (.iconst 1, 1) := by decide +kernel
theorem dX7_isMade_46 : decode cX7_isMade 46 = .ok (.goto 4, 3) := by decide +kernel
theorem dX7_isMade_49 : decode cX7_isMade 49 = .ok (.iconst 0, 1) := by decide +kernel
theorem dX7_isMade_50 : decode cX7_isMade 50 = .ok (.istore_n 2, 1) := by decide +kernel
theorem dX7_isMade_51 : decode cX7_isMade 51 = .ok (.iinc 3 1, 3) := by decide +kernel
theorem dX7_isMade_54 : decode cX7_isMade 54 = .ok (.goto (-35), 3) := by decide +kernel
theorem dX7_isMade_57 : decode cX7_isMade 57 = .ok (.iload_n 2, 1) := by decide +kernel
theorem dX7_isMade_58 : decode cX7_isMade 58 = .ok (.ireturn, 1) := by decide +kernel
theorem dX7_isSame_0 : decode cX7_isSame 0 = .ok (.aload_n 0, 1) := by decide +kernel
theorem dX7_isSame_1 : decode cX7_isSame 1 = .ok (.getfield 39, 3) := by decide +kernel
theorem dX7_isSame_4 : decode cX7_isSame 4 = .ok (.sipush 201, 3) := by decide +kernel
theorem dX7_isSame_7 : decode cX7_isSame 7 = .ok (.iload_n 1, 1) := by decide +kernel
theorem dX7_isSame_8 : decode cX7_isSame 8 = .ok (.imul, 1) := by decide +kernel
theorem dX7_isSame_9 : decode cX7_isSame 9 = .ok (.iload_n 2, 1) := by decide +kernel
theorem dX7_isSame_10 : decode cX7_isSame 10 = .ok (.iadd, 1) := by decide +kernel
theorem dX7_isSame_11 : decode cX7_isSame 11 = .ok (.iaload, 1) := by decide +kernel
theorem dX7_isSame_12 : decode cX7_isSame 12 = .ok (.aload_n 0, 1) := by decide +kernel
theorem dX7_isSame_13 : decode cX7_isSame 13 = .ok (.getfield 39, 3) := by decide +kernel
theorem dX7_isSame_16 : decode cX7_isSame 16 = .ok (.sipush 201, 3) := by decide +kernel
theorem dX7_isSame_19 : decode cX7_isSame 19 = .ok (.iload_n 3, 1) := by decide +kernel
theorem dX7_isSame_20 : decode cX7_isSame 20 = .ok (.imul, 1) := by decide +kernel
theorem dX7_isSame_21 : decode cX7_isSame 21 = .ok (.iload 4, 2) := by decide +kernel
theorem dX7_isSame_23 : decode cX7_isSame 23 = .ok (.iadd, 1) := by decide +kernel
theorem dX7_isSame_24 : decode cX7_isSame 24 = .ok (.iaload, 1) := by decide +kernel
theorem dX7_isSame_25 : decode cX7_isSame 25 = .ok (.if_icmp .ne 7, 3) := by decide +kernel
theorem dX7_isSame_28 : decode cX7_isSame 28 = .ok (.iconst 1, 1) := by decide +kernel
theorem dX7_isSame_29 : decode cX7_isSame 29 = .ok (.goto 4, 3) := by decide +kernel
theorem dX7_isSame_32 : decode cX7_isSame 32 = .ok (.iconst 0, 1) := by decide +kernel
theorem dX7_isSame_33 : decode cX7_isSame 33 = .ok (.istore 5, 2) := by decide +kernel
theorem dX7_isSame_35 : decode cX7_isSame 35 = .ok (.iconst 0, 1) := by decide +kernel
theorem dX7_isSame_36 : decode cX7_isSame 36 = .ok (.istore 6, 2) := by decide +kernel
theorem dX7_isSame_38 : decode cX7_isSame 38 = .ok (.iload 6, 2) := by decide +kernel
theorem dX7_isSame_40 : decode cX7_isSame 40 = .ok (.aload_n 0, 1) := by decide +kernel
theorem dX7_isSame_41 : decode cX7_isSame 41 = .ok (.getfield 39, 3) := by decide +kernel
theorem dX7_isSame_44 : decode cX7_isSame 44 = .ok (.sipush 201, 3) := by decide +kernel
theorem dX7_isSame_47 : decode cX7_isSame 47 = .ok (.iload_n 1, 1) := by decide +kernel
theorem dX7_isSame_48 : decode cX7_isSame 48 = .ok (.imul, 1) := by decide +kernel
theorem dX7_isSame_49 : decode cX7_isSame 49 = .ok (.iload_n 2, 1) := by decide +kernel
theorem dX7_isSame_50 : decode cX7_isSame 50 = .ok (.iadd, 1) := by decide +kernel
theorem dX7_isSame_51 : decode cX7_isSame 51 = .ok (.iaload, 1) := by decide +kernel
theorem dX7_isSame_52 : decode cX7_isSame 52 = .ok (.if_icmp .ge 77, 3) := by decide +kernel
theorem dX7_isSame_55 : decode cX7_isSame 55 = .ok (.iload 5, 2) := by decide +kernel
theorem dX7_isSame_57 : decode cX7_isSame 57 = .ok (.ifCond .eq 72, 3) := by decide +kernel
theorem dX7_isSame_60 : decode cX7_isSame 60 = .ok (.aload_n 0, 1) := by decide +kernel
theorem dX7_isSame_61 : decode cX7_isSame 61 = .ok (.getfield 21, 3) := by decide +kernel
theorem dX7_isSame_64 : decode cX7_isSame 64 = .ok (.sipush 800, 3) := by decide +kernel
theorem dX7_isSame_67 : decode cX7_isSame 67 = .ok (.iload_n 1, 1) := by decide +kernel
theorem dX7_isSame_68 : decode cX7_isSame 68 = .ok (.imul, 1) := by decide +kernel
theorem dX7_isSame_69 : decode cX7_isSame 69 = .ok (.aload_n 0, 1) := by decide +kernel
theorem dX7_isSame_70 : decode cX7_isSame 70 = .ok (.getfield 36, 3) := by decide +kernel
theorem dX7_isSame_73 : decode cX7_isSame 73 = .ok (.sipush 201, 3) := by decide +kernel
theorem dX7_isSame_76 : decode cX7_isSame 76 = .ok (.iload_n 1, 1) := by decide +kernel
theorem dX7_isSame_77 : decode cX7_isSame 77 = .ok (.imul, 1) := by decide +kernel
theorem dX7_isSame_78 : decode cX7_isSame 78 = .ok (.iload_n 2, 1) := by decide +kernel
theorem dX7_isSame_79 : decode cX7_isSame 79 = .ok (.iadd, 1) := by decide +kernel
theorem dX7_isSame_80 : decode cX7_isSame 80 = .ok (.iaload, 1) := by decide +kernel
theorem dX7_isSame_81 : decode cX7_isSame 81 = .ok (.iadd, 1) := by decide +kernel
theorem dX7_isSame_82 : decode cX7_isSame 82 = .ok (.iload 6, 2) := by decide +kernel
theorem dX7_isSame_84 : decode cX7_isSame 84 = .ok (.iadd, 1) := by decide +kernel
theorem dX7_isSame_85 : decode cX7_isSame 85 = .ok (.iaload, 1) := by decide +kernel
theorem dX7_isSame_86 : decode cX7_isSame 86 = .ok (.aload_n 0, 1) := by decide +kernel
theorem dX7_isSame_87 : decode cX7_isSame 87 = .ok (.getfield 21, 3) := by decide +kernel
theorem dX7_isSame_90 : decode cX7_isSame 90 = .ok (.sipush 800, 3) := by decide +kernel
theorem dX7_isSame_93 : decode cX7_isSame 93 = .ok (.iload_n 3, 1) := by decide +kernel
theorem dX7_isSame_94 : decode cX7_isSame 94 = .ok (.imul, 1) := by decide +kernel
theorem dX7_isSame_95 : decode cX7_isSame 95 = .ok (.aload_n 0, 1) := by decide +kernel
theorem dX7_isSame_96 : decode cX7_isSame 96 = .ok (.getfield 36, 3) := by decide +kernel
theorem dX7_isSame_99 : decode cX7_isSame 99 = .ok (.sipush 201, 3) := by decide +kernel
theorem dX7_isSame_102 : decode cX7_isSame 102 = .ok (.iload_n 3, 1) := by decide +kernel
theorem dX7_isSame_103 : decode cX7_isSame 103 = .ok (.imul, 1) := by decide +kernel
theorem dX7_isSame_104 : decode cX7_isSame 104 = .ok (.iload 4, 2) := by decide +kernel
theorem dX7_isSame_106 : decode cX7_isSame 106 = .ok (.iadd, 1) := by decide +kernel
theorem dX7_isSame_107 : decode cX7_isSame 107 = .ok (.iaload, 1) := by decide +kernel
theorem dX7_isSame_108 : decode cX7_isSame 108 = .ok (.iadd, 1) := by decide +kernel
theorem dX7_isSame_109 : decode cX7_isSame 109 = .ok (.iload 6, 2) := by decide +kernel
theorem dX7_isSame_111 : decode cX7_isSame 111 = .ok (.iadd, 1) := by decide +kernel
theorem dX7_isSame_112 : decode cX7_isSame 112 = .ok (.iaload, 1) := by decide +kernel
theorem dX7_isSame_113 : decode cX7_isSame 113 = .ok (.if_icmp .ne 7, 3) := by decide +kernel
theorem dX7_isSame_116 : decode cX7_isSame 116 = .ok (.iconst 1, 1) := by decide +kernel
theorem dX7_isSame_117 : decode cX7_isSame 117 = .ok (.goto 4, 3) := by decide +kernel
theorem dX7_isSame_120 : decode cX7_isSame 120 = .ok (.iconst 0, 1) := by decide +kernel
theorem dX7_isSame_121 : decode cX7_isSame 121 = .ok (.istore 5, 2) := by decide +kernel
theorem dX7_isSame_123 : decode cX7_isSame 123 = .ok (.iinc 6 1, 3) := by decide +kernel
theorem dX7_isSame_126 : decode cX7_isSame 126 = .ok (.goto (-88), 3) := by decide +kernel
theorem dX7_isSame_129 : decode cX7_isSame 129 = .ok (.iload 5, 2) := by decide +kernel
theorem dX7_isSame_131 : decode cX7_isSame 131 = .ok (.ireturn, 1) := by decide +kernel
theorem dX7_isTaken_0 : decode cX7_isTaken 0 = .ok (.aload_n 0, 1) := by decide +kernel
theorem dX7_isTaken_1 : decode cX7_isTaken 1 = .ok (.iload_n 1, 1) := by decide +kernel
theorem dX7_isTaken_2 : decode cX7_isTaken 2 = .ok (.iload_n 2, 1) := by decide +kernel
theorem dX7_isTaken_3 : decode cX7_isTaken 3 = .ok (.iload_n 3, 1) := by decide +kernel
theorem dX7_isTaken_4 : decode cX7_isTaken 4 = .ok (.invokevirtual 289, 3) := by decide +kernel
theorem dX7_isTaken_7 : decode cX7_isTaken 7 = .ok (.aload_n 0, 1) := by decide +kernel
theorem dX7_isTaken_8 : decode cX7_isTaken 8 = .ok (.getfield 273, 3) := by decide +kernel
theorem dX7_isTaken_11 : decode cX7_isTaken 11 = .ok (.istore 4, 2) := by decide +kernel
theorem dX7_isTaken_13 : decode cX7_isTaken 13 = .ok (.iconst 0, 1) := by decide +kernel
theorem dX7_isTaken_14 : decode cX7_isTaken 14 = .ok (.istore 5, 2) := by decide +kernel
theorem dX7_isTaken_16 : decode cX7_isTaken 16 = .ok (.iload 5, 2) := by decide +kernel
theorem dX7_isTaken_18 : decode cX7_isTaken 18 = .ok (.iload 4, 2) := by decide +kernel
theorem dX7_isTaken_20 : decode cX7_isTaken 20 = .ok (.if_icmp .ge 23, 3) := by decide +kernel
theorem dX7_isTaken_23 : decode cX7_isTaken 23 = .ok (.aload_n 0, 1) := by decide +kernel
theorem dX7_isTaken_24 : decode cX7_isTaken 24 = .ok (.getfield 75, 3) := by decide +kernel
theorem dX7_isTaken_27 : decode cX7_isTaken 27 = .ok (.iload 5, 2) := by decide +kernel
theorem dX7_isTaken_29 : decode cX7_isTaken 29 = .ok (.aload_n 0, 1) := by decide +kernel
theorem dX7_isTaken_30 : decode cX7_isTaken 30 = .ok (.getfield 72, 3) := by decide +kernel
theorem dX7_isTaken_33 : decode cX7_isTaken 33 = .ok (.iload 5, 2) := by decide +kernel
theorem dX7_isTaken_35 : decode cX7_isTaken 35 = .ok (.iaload, 1) := by decide +kernel
theorem dX7_isTaken_36 : decode cX7_isTaken 36 = .ok (.iastore, 1) := by decide +kernel
theorem dX7_isTaken_37 : decode cX7_isTaken 37 = .ok (.iinc 5 1, 3) := by decide +kernel
theorem dX7_isTaken_40 : decode cX7_isTaken 40 = .ok (.goto (-24), 3) := by decide +kernel
theorem dX7_isTaken_43 : decode cX7_isTaken 43 = .ok (.iconst 0, 1) := by decide +kernel
theorem dX7_isTaken_44 : decode cX7_isTaken 44 = .ok (.istore 5, 2) := by decide +kernel
theorem dX7_isTaken_46 : decode cX7_isTaken 46 = .ok (.iload 5, 2) := by decide +kernel
theorem dX7_isTaken_48 : decode cX7_isTaken 48 = .ok (.iload_n 2, 1) := by decide +kernel
theorem dX7_isTaken_49 : decode cX7_isTaken 49 = .ok (.if_icmp .ge 110, 3) := by decide +kernel
theorem dX7_isTaken_52 : decode cX7_isTaken 52 = .ok (.aload_n 0, 1) := by decide +kernel
theorem dX7_isTaken_53 : decode cX7_isTaken 53 = .ok (.iload_n 1, 1) := by decide +kernel
theorem dX7_isTaken_54 : decode cX7_isTaken 54 = .ok (.iload 5, 2) := by decide +kernel
theorem dX7_isTaken_56 : decode cX7_isTaken 56 = .ok (.invokevirtual 293, 3) := by decide +kernel
theorem dX7_isTaken_59 : decode cX7_isTaken 59 = .ok (.ifCond .eq 94, 3) := by decide +kernel
theorem dX7_isTaken_62 : decode cX7_isTaken 62 = .ok (.aload_n 0, 1) := by decide +kernel
theorem dX7_isTaken_63 : decode cX7_isTaken 63 = .ok (.iload_n 1, 1) := by decide +kernel
theorem dX7_isTaken_64 : decode cX7_isTaken 64 = .ok (.iload_n 2, 1) := by decide +kernel
theorem dX7_isTaken_65 : decode cX7_isTaken 65 = .ok (.iload_n 1, 1) := by decide +kernel
theorem dX7_isTaken_66 : decode cX7_isTaken 66 = .ok (.iload 5, 2) := by decide +kernel
theorem dX7_isTaken_68 : decode cX7_isTaken 68 = .ok (.invokevirtual 296, 3) := by decide +kernel
theorem dX7_isTaken_71 : decode cX7_isTaken 71 = .ok (.ifCond .eq 6, 3) := by decide +kernel
theorem dX7_isTaken_74 : decode cX7_isTaken 74 = .ok (.goto 79, 3) := by decide +kernel
theorem dX7_isTaken_77 : decode cX7_isTaken 77 = .ok (.aload_n 0, 1) := by decide +kernel
theorem dX7_isTaken_78 : decode cX7_isTaken 78 = .ok (.iload_n 1, 1) := by decide +kernel
theorem dX7_isTaken_79 : decode cX7_isTaken 79 = .ok (.iload 5, 2) := by decide +kernel
theorem dX7_isTaken_81 : decode cX7_isTaken 81 = .ok (.iload_n 3, 1) := by decide +kernel
theorem dX7_isTaken_82 : decode cX7_isTaken 82 = .ok (.invokevirtual 289, 3) := by decide +kernel
theorem dX7_isTaken_85 : decode cX7_isTaken 85 = .ok (.aload_n 0, 1) := by decide +kernel
theorem dX7_isTaken_86 : decode cX7_isTaken 86 = .ok (.getfield 273, 3) := by decide +kernel
theorem dX7_isTaken_89 : decode cX7_isTaken 89 = .ok (.iload 4, 2) := by decide +kernel
theorem dX7_isTaken_91 : decode cX7_isTaken 91 = .ok (.if_icmp .ne 7, 3) := by decide +kernel
theorem dX7_isTaken_94 : decode cX7_isTaken 94 = .ok (.iconst 1, 1) := by decide +kernel
theorem dX7_isTaken_95 : decode cX7_isTaken 95 = .ok (.goto 4, 3) := by decide +kernel
theorem dX7_isTaken_98 : decode cX7_isTaken 98 = .ok (.iconst 0, 1) := by decide +kernel
theorem dX7_isTaken_99 : decode cX7_isTaken 99 = .ok (.istore 6, 2) := by decide +kernel
theorem dX7_isTaken_101 : decode cX7_isTaken 101 = .ok (.iconst 0, 1) := by decide +kernel
theorem dX7_isTaken_102 : decode cX7_isTaken 102 = .ok (.istore 7, 2) := by decide +kernel
theorem dX7_isTaken_104 : decode cX7_isTaken 104 = .ok (.iload 7, 2) := by decide +kernel
theorem dX7_isTaken_106 : decode cX7_isTaken 106 = .ok (.iload 4, 2) := by decide +kernel
theorem dX7_isTaken_108 : decode cX7_isTaken 108 = .ok (.if_icmp .ge 38, 3) := by decide +kernel
theorem dX7_isTaken_111 : decode cX7_isTaken 111 = .ok (.iload 6, 2) := by decide +kernel
theorem dX7_isTaken_113 : decode cX7_isTaken 113 = .ok (.ifCond .eq 33, 3) := by decide +kernel
theorem dX7_isTaken_116 : decode cX7_isTaken 116 = .ok (.aload_n 0, 1) := by decide +kernel
theorem dX7_isTaken_117 : decode cX7_isTaken 117 = .ok (.getfield 75, 3) := by decide +kernel
theorem dX7_isTaken_120 : decode cX7_isTaken 120 = .ok (.iload 7, 2) := by decide +kernel
theorem dX7_isTaken_122 : decode cX7_isTaken 122 = .ok (.iaload, 1) := by decide +kernel
theorem dX7_isTaken_123 : decode cX7_isTaken 123 = .ok (.aload_n 0, 1) := by decide +kernel
theorem dX7_isTaken_124 : decode cX7_isTaken 124 = .ok (.getfield 72, 3) := by decide +kernel
theorem dX7_isTaken_127 : decode cX7_isTaken 127 = .ok (.iload 7, 2) := by decide +kernel
theorem dX7_isTaken_129 : decode cX7_isTaken 129 = .ok (.iaload, 1) := by decide +kernel
theorem dX7_isTaken_130 : decode cX7_isTaken 130 = .ok (.if_icmp .ne 7, 3) := by decide +kernel
theorem dX7_isTaken_133 : decode cX7_isTaken 133 = .ok (.iconst 1, 1) := by decide +kernel
theorem dX7_isTaken_134 : decode cX7_isTaken 134 = .ok (.goto 4, 3) := by decide +kernel
theorem dX7_isTaken_137 : decode cX7_isTaken 137 = .ok (.iconst 0, 1) := by decide +kernel
theorem dX7_isTaken_138 : decode cX7_isTaken 138 = .ok (.istore 6, 2) := by decide +kernel
theorem dX7_isTaken_140 : decode cX7_isTaken 140 = .ok (.iinc 7 1, 3) := by decide +kernel
theorem dX7_isTaken_143 : decode cX7_isTaken 143 = .ok (.goto (-39), 3) := by decide +kernel
theorem dX7_isTaken_146 : decode cX7_isTaken 146 = .ok (.iload 6, 2) := by decide +kernel
theorem dX7_isTaken_148 : decode cX7_isTaken 148 = .ok (.ifCond .eq 5, 3) := by decide +kernel
theorem dX7_isTaken_151 : decode cX7_isTaken 151 = .ok (.iconst 1, 1) := by decide +kernel
theorem dX7_isTaken_152 : decode cX7_isTaken 152 = .ok (.ireturn, 1) := by decide +kernel
theorem dX7_isTaken_153 : decode cX7_isTaken 153 = .ok (.iinc 5 1, 3) := by decide +kernel
theorem dX7_isTaken_156 : decode cX7_isTaken 156 = .ok (.goto (-110), 3) := by decide +kernel
theorem dX7_isTaken_159 : decode cX7_isTaken 159 = .ok (.iconst 0, 1) := by decide +kernel
theorem dX7_isTaken_160 : decode cX7_isTaken 160 = .ok (.ireturn, 1) := by decide +kernel
theorem dX7_turn_0 : decode cX7_turn 0 = .ok (.aload_n 0, 1) := by decide +kernel
theorem dX7_turn_1 : decode cX7_turn 1 = .ok (.iload_n 1, 1) := by decide +kernel
theorem dX7_turn_2 : decode cX7_turn 2 = .ok (.invokevirtual 216, 3) := by decide +kernel
theorem dX7_turn_5 : decode cX7_turn 5 = .ok (.ifCond .eq 25, 3) := by decide +kernel
theorem dX7_turn_8 : decode cX7_turn 8 = .ok (.aload_n 0, 1) := by decide +kernel
theorem dX7_turn_9 : decode cX7_turn 9 = .ok (.iload_n 2, 1) := by decide +kernel
theorem dX7_turn_10 : decode cX7_turn 10 = .ok (.ifCond .eq 8, 3) := by decide +kernel
theorem dX7_turn_13 : decode cX7_turn 13 = .ok (.iload_n 2, 1) := by decide +kernel
theorem dX7_turn_14 : decode cX7_turn 14 = .ok (.iconst 1, 1) := by decide +kernel
theorem dX7_turn_15 : decode cX7_turn 15 = .ok (.if_icmp .ne 7, 3) := by decide +kernel
theorem dX7_turn_18 : decode cX7_turn 18 = .ok (.iconst 1, 1) := by decide +kernel
theorem dX7_turn_19 : decode cX7_turn 19 = .ok (.goto 4, 3) := by decide +kernel
theorem dX7_turn_22 : decode cX7_turn 22 = .ok (.iconst 0, 1) := by decide +kernel
theorem dX7_turn_23 : decode cX7_turn 23 = .ok (.iconst 2, 1) := by decide +kernel
theorem dX7_turn_24 : decode cX7_turn 24 = .ok (.invokevirtual 208, 3) := by decide +kernel
theorem dX7_turn_27 : decode cX7_turn 27 = .ok (.ifCond .ne 5, 3) := by decide +kernel
theorem dX7_turn_30 : decode cX7_turn 30 = .ok (.iconst 0, 1) := by decide +kernel
theorem dX7_turn_31 : decode cX7_turn 31 = .ok (.ireturn, 1) := by decide +kernel
theorem dX7_turn_32 : decode cX7_turn 32 = .ok (.aload_n 0, 1) := by decide +kernel
theorem dX7_turn_33 : decode cX7_turn 33 = .ok (.invokevirtual 267, 3) := by decide +kernel
theorem dX7_turn_36 : decode cX7_turn 36 = .ok (.pop, 1) := by decide +kernel
theorem dX7_turn_37 : decode cX7_turn 37 = .ok (.iconst 1, 1) := by decide +kernel
theorem dX7_turn_38 : decode cX7_turn 38 = .ok (.istore_n 3, 1) := by decide +kernel
theorem dX7_turn_39 : decode cX7_turn 39 = .ok (.aload_n 0, 1) := by decide +kernel
theorem dX7_turn_40 : decode cX7_turn 40 = .ok (.getfield 24, 3) := by decide +kernel
theorem dX7_turn_43 : decode cX7_turn 43 = .ok (.iload_n 1, 1) := by decide +kernel
theorem dX7_turn_44 : decode cX7_turn 44 = .ok (.iaload, 1) := by decide +kernel
theorem dX7_turn_45 : decode cX7_turn 45 = .ok (.istore 4, 2) := by decide +kernel
theorem dX7_turn_47 : decode cX7_turn 47 = .ok (.iconst 0, 1) := by decide +kernel
theorem dX7_turn_48 : decode cX7_turn 48 = .ok (.istore 5, 2) := by decide +kernel
theorem dX7_turn_50 : decode cX7_turn 50 = .ok (.iload 5, 2) := by decide +kernel
theorem dX7_turn_52 : decode cX7_turn 52 = .ok (.aload_n 0, 1) := by decide +kernel
theorem dX7_turn_53 : decode cX7_turn 53 = .ok (.getfield 30, 3) := by decide +kernel
theorem dX7_turn_56 : decode cX7_turn 56 = .ok (.iload_n 1, 1) := by decide +kernel
theorem dX7_turn_57 : decode cX7_turn 57 = .ok (.iaload, 1) := by decide +kernel
theorem dX7_turn_58 : decode cX7_turn 58 = .ok (.if_icmp .ge 148, 3) := by decide +kernel
theorem dX7_turn_61 : decode cX7_turn 61 = .ok (.iload_n 3, 1) := by decide +kernel
theorem dX7_turn_62 : decode cX7_turn 62 = .ok (.ifCond .eq 144, 3) := by decide +kernel
theorem dX7_turn_65 : decode cX7_turn 65 = .ok (.aload_n 0, 1) := by decide +kernel
theorem dX7_turn_66 : decode cX7_turn 66 = .ok (.iload_n 1, 1) := by decide +kernel
theorem dX7_turn_67 : decode cX7_turn 67 = .ok (.iload 5, 2) := by decide +kernel
theorem dX7_turn_69 : decode cX7_turn 69 = .ok (.invokevirtual 293, 3) := by decide +kernel
theorem dX7_turn_72 : decode cX7_turn 72 = .ok (.ifCond .ne 6, 3) := by decide +kernel
theorem dX7_turn_75 : decode cX7_turn 75 = .ok (.goto 125, 3) := by decide +kernel
theorem dX7_turn_78 : decode cX7_turn 78 = .ok (.aload_n 0, 1) := by decide +kernel
theorem dX7_turn_79 : decode cX7_turn 79 = .ok (.iload_n 1, 1) := by decide +kernel
theorem dX7_turn_80 : decode cX7_turn 80 = .ok (.iload 5, 2) := by decide +kernel
theorem dX7_turn_82 : decode cX7_turn 82 = .ok (.iload_n 2, 1) := by decide +kernel
theorem dX7_turn_83 : decode cX7_turn 83 = .ok (.invokevirtual 300, 3) := by decide +kernel
theorem dX7_turn_86 : decode cX7_turn 86 = .ok (.ifCond .ne 7, 3) := by decide +kernel
theorem dX7_turn_89 : decode cX7_turn 89 = .ok (.iconst 1, 1) := by decide +kernel
theorem dX7_turn_90 : decode cX7_turn 90 = .ok (.goto 4, 3) := by decide +kernel
theorem dX7_turn_93 : decode cX7_turn 93 = .ok (.iconst 0, 1) := by decide +kernel
theorem dX7_turn_94 : decode cX7_turn 94 = .ok (.istore_n 3, 1) := by decide +kernel
theorem dX7_turn_95 : decode cX7_turn 95 = .ok (.aload_n 0, 1) := by decide +kernel
theorem dX7_turn_96 : decode cX7_turn 96 = .ok (.iload_n 1, 1) := by decide +kernel
theorem dX7_turn_97 : decode cX7_turn 97 = .ok (.iload 5, 2) := by decide +kernel
theorem dX7_turn_99 : decode cX7_turn 99 = .ok (.iload_n 2, 1) := by decide +kernel
theorem dX7_turn_100 : decode cX7_turn 100 = .ok (.invokevirtual 289, 3) := by decide +kernel
theorem dX7_turn_103 : decode cX7_turn 103 = .ok (.iload 4, 2) := by decide +kernel
theorem dX7_turn_105 : decode cX7_turn 105 = .ok (.aload_n 0, 1) := by decide +kernel
theorem dX7_turn_106 : decode cX7_turn 106 = .ok (.getfield 273, 3) := by decide +kernel
theorem dX7_turn_109 : decode cX7_turn 109 = .ok (.aload_n 0, 1) := by decide +kernel
theorem dX7_turn_110 : decode cX7_turn 110 = .ok (.getfield 39, 3) := by decide +kernel
theorem dX7_turn_113 : decode cX7_turn 113 = .ok (.sipush 201, 3) := by decide +kernel
theorem dX7_turn_116 : decode cX7_turn 116 = .ok (.iload_n 1, 1) := by decide +kernel
theorem dX7_turn_117 : decode cX7_turn 117 = .ok (.imul, 1) := by decide +kernel
theorem dX7_turn_118 : decode cX7_turn 118 = .ok (.iload 5, 2) := by decide +kernel
theorem dX7_turn_120 : decode cX7_turn 120 = .ok (.iadd, 1) := by decide +kernel
theorem dX7_turn_121 : decode cX7_turn 121 = .ok (.iaload, 1) := by decide +kernel
theorem dX7_turn_122 : decode cX7_turn 122 = .ok (.isub, 1) := by decide +kernel
theorem dX7_turn_123 : decode cX7_turn 123 = .ok (.iadd, 1) := by decide +kernel
theorem dX7_turn_124 : decode cX7_turn 124 = .ok (.istore 4, 2) := by decide +kernel
theorem dX7_turn_126 : decode cX7_turn 126 = .ok (.iload_n 3, 1) := by decide +kernel
theorem dX7_turn_127 : decode cX7_turn 127 = .ok (.ifCond .eq 71, 3) := by decide +kernel
theorem dX7_turn_130 : decode cX7_turn 130 = .ok (.aload_n 0, 1) := by decide +kernel
theorem dX7_turn_131 : decode cX7_turn 131 = .ok (.getfield 273, 3) := by decide +kernel
theorem dX7_turn_134 : decode cX7_turn 134 = .ok (.bipush 16, 2) := by decide +kernel
theorem dX7_turn_136 : decode cX7_turn 136 = .ok (.if_icmp .gt 62, 3) := by decide +kernel
theorem dX7_turn_139 : decode cX7_turn 139 = .ok (.aload_n 0, 1) := by decide +kernel
theorem dX7_turn_140 : decode cX7_turn 140 = .ok (.getfield 273, 3) := by decide +kernel
theorem dX7_turn_143 : decode cX7_turn 143 = .ok (.ifCond .le 55, 3) := by decide +kernel
theorem dX7_turn_146 : decode cX7_turn 146 = .ok (.aload_n 0, 1) := by decide +kernel
theorem dX7_turn_147 : decode cX7_turn 147 = .ok (.getfield 72, 3) := by decide +kernel
theorem dX7_turn_150 : decode cX7_turn 150 = .ok (.iconst 0, 1) := by decide +kernel
theorem dX7_turn_151 : decode cX7_turn 151 = .ok (.iaload, 1) := by decide +kernel
theorem dX7_turn_152 : decode cX7_turn 152 = .ok (.invokestatic 108, 3) := by decide +kernel
theorem dX7_turn_155 : decode cX7_turn 155 = .ok (.ifCond .ne 43, 3) := by decide +kernel
theorem dX7_turn_158 : decode cX7_turn 158 = .ok (.aload_n 0, 1) := by decide +kernel
theorem dX7_turn_159 : decode cX7_turn 159 = .ok (.ldc 130, 2) := by decide +kernel
theorem dX7_turn_161 : decode cX7_turn 161 = .ok (.invokevirtual 303, 3) := by decide +kernel
theorem dX7_turn_164 : decode cX7_turn 164 = .ok (.ifCond .ne 34, 3) := by decide +kernel
theorem dX7_turn_167 : decode cX7_turn 167 = .ok (.aload_n 0, 1) := by decide +kernel
theorem dX7_turn_168 : decode cX7_turn 168 = .ok (.ldc 136, 2) := by decide +kernel
theorem dX7_turn_170 : decode cX7_turn 170 = .ok (.invokevirtual 303, 3) := by decide +kernel
theorem dX7_turn_173 : decode cX7_turn 173 = .ok (.ifCond .ne 25, 3) := by decide +kernel
theorem dX7_turn_176 : decode cX7_turn 176 = .ok (.aload_n 0, 1) := by decide +kernel
theorem dX7_turn_177 : decode cX7_turn 177 = .ok (.ldc 138, 2) := by decide +kernel
theorem dX7_turn_179 : decode cX7_turn 179 = .ok (.invokevirtual 303, 3) := by decide +kernel
theorem dX7_turn_182 : decode cX7_turn 182 = .ok (.ifCond .ne 16, 3) := by decide +kernel
theorem dX7_turn_185 : decode cX7_turn 185 = .ok (.aload_n 0, 1) := by decide +kernel
theorem dX7_turn_186 : decode cX7_turn 186 = .ok (.ldc 140, 2) := by decide +kernel
theorem dX7_turn_188 : decode cX7_turn 188 = .ok (.invokevirtual 303, 3) := by decide +kernel
theorem dX7_turn_191 : decode cX7_turn 191 = .ok (.ifCond .ne 7, 3) := by decide +kernel
theorem dX7_turn_194 : decode cX7_turn 194 = .ok (.iconst 1, 1) := by decide +kernel
theorem dX7_turn_195 : decode cX7_turn 195 = .ok (.goto 4, 3) := by decide +kernel
theorem dX7_turn_198 : decode cX7_turn 198 = .ok (.iconst 0, 1) := by decide +kernel
theorem dX7_turn_199 : decode cX7_turn 199 = .ok (.istore_n 3, 1) := by decide +kernel
theorem dX7_turn_200 : decode cX7_turn 200 = .ok (.iinc 5 1, 3) := by decide +kernel
theorem dX7_turn_203 : decode cX7_turn 203 = .ok (.goto (-153), 3) := by decide +kernel
theorem dX7_turn_206 : decode cX7_turn 206 = .ok (.iload_n 3, 1) := by decide +kernel
theorem dX7_turn_207 : decode cX7_turn 207 = .ok (.ifCond .eq 11, 3) := by decide +kernel
theorem dX7_turn_210 : decode cX7_turn 210 = .ok (.iload 4, 2) := by decide +kernel
theorem dX7_turn_212 : decode cX7_turn 212 = .ok (.sipush 800, 3) := by decide +kernel
theorem dX7_turn_215 : decode cX7_turn 215 = .ok (.if_icmp .le 5, 3) := by decide +kernel
theorem dX7_turn_218 : decode cX7_turn 218 = .ok (.iconst (-1), 1) := by decide +kernel
theorem dX7_turn_219 : decode cX7_turn 219 = .ok (.ireturn, 1) := by decide +kernel
theorem dX7_turn_220 : decode cX7_turn 220 = .ok (.iconst 0, 1) := by decide +kernel
theorem dX7_turn_221 : decode cX7_turn 221 = .ok (.istore 5, 2) := by decide +kernel
theorem dX7_turn_223 : decode cX7_turn 223 = .ok (.iconst 0, 1) := by decide +kernel
theorem dX7_turn_224 : decode cX7_turn 224 = .ok (.istore 6, 2) := by decide +kernel
theorem dX7_turn_226 : decode cX7_turn 226 = .ok (.iload 6, 2) := by decide +kernel
theorem dX7_turn_228 : decode cX7_turn 228 = .ok (.aload_n 0, 1) := by decide +kernel
theorem dX7_turn_229 : decode cX7_turn 229 = .ok (.getfield 30, 3) := by decide +kernel
theorem dX7_turn_232 : decode cX7_turn 232 = .ok (.iload_n 1, 1) := by decide +kernel
theorem dX7_turn_233 : decode cX7_turn 233 = .ok (.iaload, 1) := by decide +kernel
theorem dX7_turn_234 : decode cX7_turn 234 = .ok (.if_icmp .ge 120, 3) := by decide +kernel
theorem dX7_turn_237 : decode cX7_turn 237 = .ok (.aload_n 0, 1) := by decide +kernel
theorem dX7_turn_238 : decode cX7_turn 238 = .ok (.iload_n 1, 1) := by decide +kernel
theorem dX7_turn_239 : decode cX7_turn 239 = .ok (.iload 6, 2) := by decide +kernel
theorem dX7_turn_241 : decode cX7_turn 241 = .ok (.invokevirtual 293, 3) := by decide +kernel
theorem dX7_turn_244 : decode cX7_turn 244 = .ok (.ifCond .ne 6, 3) := by decide +kernel
theorem dX7_turn_247 : decode cX7_turn 247 = .ok (.goto 101, 3) := by decide +kernel
theorem dX7_turn_250 : decode cX7_turn 250 = .ok (.iload 5, 2) := by decide +kernel
theorem dX7_turn_252 : decode cX7_turn 252 = .ok (.aload_n 0, 1) := by decide +kernel
theorem dX7_turn_253 : decode cX7_turn 253 = .ok (.getfield 36, 3) := by decide +kernel
theorem dX7_turn_256 : decode cX7_turn 256 = .ok (.sipush 201, 3) := by decide +kernel
theorem dX7_turn_259 : decode cX7_turn 259 = .ok (.iload_n 1, 1) := by decide +kernel
theorem dX7_turn_260 : decode cX7_turn 260 = .ok (.imul, 1) := by decide +kernel
theorem dX7_turn_261 : decode cX7_turn 261 = .ok (.iload 6, 2) := by decide +kernel
theorem dX7_turn_263 : decode cX7_turn 263 = .ok (.iadd, 1) := by decide +kernel
theorem dX7_turn_264 : decode cX7_turn 264 = .ok (.iaload, 1) := by decide +kernel
theorem dX7_turn_265 : decode cX7_turn 265 = .ok (.if_icmp .ge 27, 3) := by decide +kernel
theorem dX7_turn_268 : decode cX7_turn 268 = .ok (.aload_n 0, 1) := by decide +kernel
theorem dX7_turn_269 : decode cX7_turn 269 = .ok (.aload_n 0, 1) := by decide +kernel
theorem dX7_turn_270 : decode cX7_turn 270 = .ok (.getfield 21, 3) := by decide +kernel
theorem dX7_turn_273 : decode cX7_turn 273 = .ok (.sipush 800, 3) := by decide +kernel
theorem dX7_turn_276 : decode cX7_turn 276 = .ok (.iload_n 1, 1) := by decide +kernel
theorem dX7_turn_277 : decode cX7_turn 277 = .ok (.imul, 1) := by decide +kernel
theorem dX7_turn_278 : decode cX7_turn 278 = .ok (.iload 5, 2) := by decide +kernel
theorem dX7_turn_280 : decode cX7_turn 280 = .ok (.iadd, 1) := by decide +kernel
theorem dX7_turn_281 : decode cX7_turn 281 = .ok (.iaload, 1) := by decide +kernel
theorem dX7_turn_282 : decode cX7_turn 282 = .ok (.invokevirtual 270, 3) := by decide +kernel
theorem dX7_turn_285 : decode cX7_turn 285 = .ok (.pop, 1) := by decide +kernel
theorem dX7_turn_286 : decode cX7_turn 286 = .ok (.iinc 5 1, 3) := by decide +kernel
theorem dX7_turn_289 : decode cX7_turn 289 = .ok (.goto (-39), 3) := by decide +kernel
theorem dX7_turn_292 : decode cX7_turn 292 = .ok (.aload_n 0, 1) := by decide +kernel
theorem dX7_turn_293 : decode cX7_turn 293 = .ok (.iload_n 1, 1) := by decide +kernel
theorem dX7_turn_294 : decode cX7_turn 294 = .ok (.iload 6, 2) := by decide +kernel
theorem dX7_turn_296 : decode cX7_turn 296 = .ok (.iload_n 2, 1) := by decide +kernel
theorem dX7_turn_297 : decode cX7_turn 297 = .ok (.invokevirtual 289, 3) := by decide +kernel
theorem dX7_turn_300 : decode cX7_turn 300 = .ok (.iconst 0, 1) := by decide +kernel
theorem dX7_turn_301 : decode cX7_turn 301 = .ok (.istore 7, 2) := by decide +kernel
theorem dX7_turn_303 : decode cX7_turn 303 = .ok (.iload 7, 2) := by decide +kernel
theorem dX7_turn_305 : decode cX7_turn 305 = .ok (.aload_n 0, 1) := by decide +kernel
theorem dX7_turn_306 : decode cX7_turn 306 = .ok (.getfield 273, 3) := by decide +kernel
theorem dX7_turn_309 : decode cX7_turn 309 = .ok (.if_icmp .ge 21, 3) := by decide +kernel
theorem dX7_turn_312 : decode cX7_turn 312 = .ok (.aload_n 0, 1) := by decide +kernel
theorem dX7_turn_313 : decode cX7_turn 313 = .ok (.aload_n 0, 1) := by decide +kernel
theorem dX7_turn_314 : decode cX7_turn 314 = .ok (.getfield 72, 3) := by decide +kernel
theorem dX7_turn_317 : decode cX7_turn 317 = .ok (.iload 7, 2) := by decide +kernel
theorem dX7_turn_319 : decode cX7_turn 319 = .ok (.iaload, 1) := by decide +kernel
theorem dX7_turn_320 : decode cX7_turn 320 = .ok (.invokevirtual 270, 3) := by decide +kernel
theorem dX7_turn_323 : decode cX7_turn 323 = .ok (.pop, 1) := by decide +kernel
theorem dX7_turn_324 : decode cX7_turn 324 = .ok (.iinc 7 1, 3) := by decide +kernel
theorem dX7_turn_327 : decode cX7_turn 327 = .ok (.goto (-24), 3) := by decide +kernel
theorem dX7_turn_330 : decode cX7_turn 330 = .ok (.iload 5, 2) := by decide +kernel
theorem dX7_turn_332 : decode cX7_turn 332 = .ok (.aload_n 0, 1) := by decide +kernel
theorem dX7_turn_333 : decode cX7_turn 333 = .ok (.getfield 39, 3) := by decide +kernel
theorem dX7_turn_336 : decode cX7_turn 336 = .ok (.sipush 201, 3) := by decide +kernel
theorem dX7_turn_339 : decode cX7_turn 339 = .ok (.iload_n 1, 1) := by decide +kernel
theorem dX7_turn_340 : decode cX7_turn 340 = .ok (.imul, 1) := by decide +kernel
theorem dX7_turn_341 : decode cX7_turn 341 = .ok (.iload 6, 2) := by decide +kernel
theorem dX7_turn_343 : decode cX7_turn 343 = .ok (.iadd, 1) := by decide +kernel
theorem dX7_turn_344 : decode cX7_turn 344 = .ok (.iaload, 1) := by decide +kernel
theorem dX7_turn_345 : decode cX7_turn 345 = .ok (.iadd, 1) := by decide +kernel
theorem dX7_turn_346 : decode cX7_turn 346 = .ok (.istore 5, 2) := by decide +kernel
theorem dX7_turn_348 : decode cX7_turn 348 = .ok (.iinc 6 1, 3) := by decide +kernel
theorem dX7_turn_351 : decode cX7_turn 351 = .ok (.goto (-125), 3) := by decide +kernel
theorem dX7_turn_354 : decode cX7_turn 354 = .ok (.iload 5, 2) := by decide +kernel
theorem dX7_turn_356 : decode cX7_turn 356 = .ok (.aload_n 0, 1) := by decide +kernel
theorem dX7_turn_357 : decode cX7_turn 357 = .ok (.getfield 24, 3) := by decide +kernel
theorem dX7_turn_360 : decode cX7_turn 360 = .ok (.iload_n 1, 1) := by decide +kernel
theorem dX7_turn_361 : decode cX7_turn 361 = .ok (.iaload, 1) := by decide +kernel
theorem dX7_turn_362 : decode cX7_turn 362 = .ok (.if_icmp .ge 27, 3) := by decide +kernel
theorem dX7_turn_365 : decode cX7_turn 365 = .ok (.aload_n 0, 1) := by decide +kernel
theorem dX7_turn_366 : decode cX7_turn 366 = .ok (.aload_n 0, 1) := by decide +kernel
theorem dX7_turn_367 : decode cX7_turn 367 = .ok (.getfield 21, 3) := by decide +kernel
theorem dX7_turn_370 : decode cX7_turn 370 = .ok (.sipush 800, 3) := by decide +kernel
theorem dX7_turn_373 : decode cX7_turn 373 = .ok (.iload_n 1, 1) := by decide +kernel
theorem dX7_turn_374 : decode cX7_turn 374 = .ok (.imul, 1) := by decide +kernel
theorem dX7_turn_375 : decode cX7_turn 375 = .ok (.iload 5, 2) := by decide +kernel
theorem dX7_turn_377 : decode cX7_turn 377 = .ok (.iadd, 1) := by decide +kernel
theorem dX7_turn_378 : decode cX7_turn 378 = .ok (.iaload, 1) := by decide +kernel
theorem dX7_turn_379 : decode cX7_turn 379 = .ok (.invokevirtual 270, 3) := by decide +kernel
theorem dX7_turn_382 : decode cX7_turn 382 = .ok (.pop, 1) := by decide +kernel
theorem dX7_turn_383 : decode cX7_turn 383 = .ok (.iinc 5 1, 3) := by decide +kernel
theorem dX7_turn_386 : decode cX7_turn 386 = .ok (.goto (-32), 3) := by decide +kernel
theorem dX7_turn_389 : decode cX7_turn 389 = .ok (.aload_n 0, 1) := by decide +kernel
theorem dX7_turn_390 : decode cX7_turn 390 = .ok (.iload_n 1, 1) := by decide +kernel
theorem dX7_turn_391 : decode cX7_turn 391 = .ok (.putfield 60, 3) := by decide +kernel
theorem dX7_turn_394 : decode cX7_turn 394 = .ok (.aload_n 0, 1) := by decide +kernel
theorem dX7_turn_395 : decode cX7_turn 395 = .ok (.getfield 264, 3) := by decide +kernel
theorem dX7_turn_398 : decode cX7_turn 398 = .ok (.ireturn, 1) := by decide +kernel
theorem dX7_isAs_0 : decode cX7_isAs 0 = .ok (.aload_n 0, 1) := by decide +kernel
theorem dX7_isAs_1 : decode cX7_isAs 1 = .ok (.iload_n 1, 1) := by decide +kernel
theorem dX7_isAs_2 : decode cX7_isAs 2 = .ok (.iload_n 2, 1) := by decide +kernel
theorem dX7_isAs_3 : decode cX7_isAs 3 = .ok (.iload_n 3, 1) := by decide +kernel
theorem dX7_isAs_4 : decode cX7_isAs 4 = .ok (.invokevirtual 289, 3) := by decide +kernel
theorem dX7_isAs_7 : decode cX7_isAs 7 = .ok (.aload_n 0, 1) := by decide +kernel
theorem dX7_isAs_8 : decode cX7_isAs 8 = .ok (.getfield 273, 3) := by decide +kernel
theorem dX7_isAs_11 : decode cX7_isAs 11 = .ok (.aload_n 0, 1) := by decide +kernel
theorem dX7_isAs_12 : decode cX7_isAs 12 = .ok (.getfield 39, 3) := by decide +kernel
theorem dX7_isAs_15 : decode cX7_isAs 15 = .ok (.sipush 201, 3) := by decide +kernel
theorem dX7_isAs_18 : decode cX7_isAs 18 = .ok (.iload_n 1, 1) := by decide +kernel
theorem dX7_isAs_19 : decode cX7_isAs 19 = .ok (.imul, 1) := by decide +kernel
theorem dX7_isAs_20 : decode cX7_isAs 20 = .ok (.iload_n 2, 1) := by decide +kernel
theorem dX7_isAs_21 : decode cX7_isAs 21 = .ok (.iadd, 1) := by decide +kernel
theorem dX7_isAs_22 : decode cX7_isAs 22 = .ok (.iaload, 1) := by decide +kernel
theorem dX7_isAs_23 : decode cX7_isAs 23 = .ok (.if_icmp .ne 7, 3) := by decide +kernel
theorem dX7_isAs_26 : decode cX7_isAs 26 = .ok (.iconst 1, 1) := by decide +kernel
theorem dX7_isAs_27 : decode cX7_isAs 27 = .ok (.goto 4, 3) := by decide +kernel
theorem dX7_isAs_30 : decode cX7_isAs 30 = .ok (.iconst 0, 1) := by decide +kernel
theorem dX7_isAs_31 : decode cX7_isAs 31 = .ok (.istore 4, 2) := by decide +kernel
theorem dX7_isAs_33 : decode cX7_isAs 33 = .ok (.iconst 0, 1) := by decide +kernel
theorem dX7_isAs_34 : decode cX7_isAs 34 = .ok (.istore 5, 2) := by decide +kernel
theorem dX7_isAs_36 : decode cX7_isAs 36 = .ok (.iload 5, 2) := by decide +kernel
theorem dX7_isAs_38 : decode cX7_isAs 38 = .ok (.aload_n 0, 1) := by decide +kernel
theorem dX7_isAs_39 : decode cX7_isAs 39 = .ok (.getfield 273, 3) := by decide +kernel
theorem dX7_isAs_42 : decode cX7_isAs 42 = .ok (.if_icmp .ge 57, 3) := by decide +kernel
theorem dX7_isAs_45 : decode cX7_isAs 45 = .ok (.iload 4, 2) := by decide +kernel
theorem dX7_isAs_47 : decode cX7_isAs 47 = .ok (.ifCond .eq 52, 3) := by decide +kernel
theorem dX7_isAs_50 : decode cX7_isAs 50 = .ok (.aload_n 0, 1) := by decide +kernel
theorem dX7_isAs_51 : decode cX7_isAs 51 = .ok (.getfield 72, 3) := by decide +kernel
theorem dX7_isAs_54 : decode cX7_isAs 54 = .ok (.iload 5, 2) := by decide +kernel
theorem dX7_isAs_56 : decode cX7_isAs 56 = .ok (.iaload, 1) := by decide +kernel
theorem dX7_isAs_57 : decode cX7_isAs 57 = .ok (.aload_n 0, 1) := by decide +kernel
theorem dX7_isAs_58 : decode cX7_isAs 58 = .ok (.getfield 21, 3) := by decide +kernel
theorem dX7_isAs_61 : decode cX7_isAs 61 = .ok (.sipush 800, 3) := by decide +kernel
theorem dX7_isAs_64 : decode cX7_isAs 64 = .ok (.iload_n 1, 1) := by decide +kernel
theorem dX7_isAs_65 : decode cX7_isAs 65 = .ok (.imul, 1) := by decide +kernel
theorem dX7_isAs_66 : decode cX7_isAs 66 = .ok (.aload_n 0, 1) := by decide +kernel
theorem dX7_isAs_67 : decode cX7_isAs 67 = .ok (.getfield 36, 3) := by decide +kernel
theorem dX7_isAs_70 : decode cX7_isAs 70 = .ok (.sipush 201, 3) := by decide +kernel
theorem dX7_isAs_73 : decode cX7_isAs 73 = .ok (.iload_n 1, 1) := by decide +kernel
theorem dX7_isAs_74 : decode cX7_isAs 74 = .ok (.imul, 1) := by decide +kernel
theorem dX7_isAs_75 : decode cX7_isAs 75 = .ok (.iload_n 2, 1) := by decide +kernel
theorem dX7_isAs_76 : decode cX7_isAs 76 = .ok (.iadd, 1) := by decide +kernel
theorem dX7_isAs_77 : decode cX7_isAs 77 = .ok (.iaload, 1) := by decide +kernel
theorem dX7_isAs_78 : decode cX7_isAs 78 = .ok (.iadd, 1) := by decide +kernel
theorem dX7_isAs_79 : decode cX7_isAs 79 = .ok (.iload 5, 2) := by decide +kernel
theorem dX7_isAs_81 : decode cX7_isAs 81 = .ok (.iadd, 1) := by decide +kernel
theorem dX7_isAs_82 : decode cX7_isAs 82 = .ok (.iaload, 1) := by decide +kernel
theorem dX7_isAs_83 : decode cX7_isAs 83 = .ok (.if_icmp .ne 7, 3) := by decide +kernel
theorem dX7_isAs_86 : decode cX7_isAs 86 = .ok (.iconst 1, 1) := by decide +kernel
theorem dX7_isAs_87 : decode cX7_isAs 87 = .ok (.goto 4, 3) := by decide +kernel
theorem dX7_isAs_90 : decode cX7_isAs 90 = .ok (.iconst 0, 1) := by decide +kernel
theorem dX7_isAs_91 : decode cX7_isAs 91 = .ok (.istore 4, 2) := by decide +kernel
theorem dX7_isAs_93 : decode cX7_isAs 93 = .ok (.iinc 5 1, 3) := by decide +kernel
theorem dX7_isAs_96 : decode cX7_isAs 96 = .ok (.goto (-60), 3) := by decide +kernel
theorem dX7_isAs_99 : decode cX7_isAs 99 = .ok (.iload 4, 2) := by decide +kernel
theorem dX7_isAs_101 : decode cX7_isAs 101 = .ok (.ifCond .eq 15, 3) := by decide +kernel
theorem dX7_isAs_104 : decode cX7_isAs 104 = .ok (.aload_n 0, 1) := by decide +kernel
theorem dX7_isAs_105 : decode cX7_isAs 105 = .ok (.getfield 276, 3) := by decide +kernel
theorem dX7_isAs_108 : decode cX7_isAs 108 = .ok (.iconst 1, 1) := by decide +kernel
theorem dX7_isAs_109 : decode cX7_isAs 109 = .ok (.if_icmp .le 7, 3) := by decide +kernel
theorem dX7_isAs_112 : decode cX7_isAs 112 = .ok (.iconst 1, 1) := by decide +kernel
theorem dX7_isAs_113 : decode cX7_isAs 113 = .ok (.goto 4, 3) := by decide +kernel
theorem dX7_isAs_116 : decode cX7_isAs 116 = .ok (.iconst 0, 1) := by decide +kernel
theorem dX7_isAs_117 : decode cX7_isAs 117 = .ok (.ireturn, 1) := by decide +kernel
theorem dX7_house_0 : decode cX7_house 0 = .ok (.aload_n 0, 1) := by decide +kernel
theorem dX7_house_1 : decode cX7_house 1 = .ok (.iconst 0, 1) := by decide +kernel
theorem dX7_house_2 : decode cX7_house 2 = .ok (.putfield 78, 3) := by decide +kernel
theorem dX7_house_5 : decode cX7_house 5 = .ok (.iconst 0, 1) := by decide +kernel
theorem dX7_house_6 : decode cX7_house 6 = .ok (.istore_n 1, 1) := by decide +kernel
theorem dX7_house_7 : decode cX7_house 7 = .ok (.iconst 0, 1) := by decide +kernel
theorem dX7_house_8 : decode cX7_house 8 = .ok (.istore_n 2, 1) := by decide +kernel
theorem dX7_house_9 : decode cX7_house 9 = .ok (.iload_n 2, 1) := by decide +kernel
theorem dX7_house_10 : decode cX7_house 10 = .ok (.bipush 12, 2) := by decide +kernel
theorem dX7_house_12 : decode cX7_house 12 = .ok (.if_icmp .ge 74, 3) := by decide +kernel
theorem dX7_house_15 : decode cX7_house 15 = .ok (.iconst 0, 1) := by decide +kernel
theorem dX7_house_16 : decode cX7_house 16 = .ok (.istore_n 3, 1) := by decide +kernel
theorem dX7_house_17 : decode cX7_house 17 = .ok (.aload_n 0, 1) := by decide +kernel
theorem dX7_house_18 : decode cX7_house 18 = .ok (.getfield 17, 3) := by decide +kernel
theorem dX7_house_21 : decode cX7_house 21 = .ok (.iload_n 2, 1) := by decide +kernel
theorem dX7_house_22 : decode cX7_house 22 = .ok (.baload, 1) := by decide +kernel
theorem dX7_house_23 : decode cX7_house 23 = .ok (.ifCond .eq 57, 3) := by decide +kernel
theorem dX7_house_26 : decode cX7_house 26 = .ok (.iload_n 3, 1) := by decide +kernel
theorem dX7_house_27 : decode cX7_house 27 = .ok (.aload_n 0, 1) := by decide +kernel
theorem dX7_house_28 : decode cX7_house 28 = .ok (.getfield 30, 3) := by decide +kernel
theorem dX7_house_31 : decode cX7_house 31 = .ok (.iload_n 2, 1) := by decide +kernel
theorem dX7_house_32 : decode cX7_house 32 = .ok (.iaload, 1) := by decide +kernel
theorem dX7_house_33 : decode cX7_house 33 = .ok (.if_icmp .ge 47, 3) := by decide +kernel
theorem dX7_house_36 : decode cX7_house 36 = .ok (.aload_n 0, 1) := by decide +kernel
theorem dX7_house_37 : decode cX7_house 37 = .ok (.iload_n 2, 1) := by decide +kernel
theorem dX7_house_38 : decode cX7_house 38 = .ok (.iload_n 3, 1) := by decide +kernel
theorem dX7_house_39 : decode cX7_house 39 = .ok (.invokevirtual 293, 3) := by decide +kernel
theorem dX7_house_42 : decode cX7_house 42 = .ok (.ifCond .ne 6, 3) := by decide +kernel
theorem dX7_house_45 : decode cX7_house 45 = .ok (.goto 29, 3) := by decide +kernel
theorem dX7_house_48 : decode cX7_house 48 = .ok (.aload_n 0, 1) := by decide +kernel
theorem dX7_house_49 : decode cX7_house 49 = .ok (.iload_n 2, 1) := by decide +kernel
theorem dX7_house_50 : decode cX7_house 50 = .ok (.iload_n 3, 1) := by decide +kernel
theorem dX7_house_51 : decode cX7_house 51 = .ok (.iconst 0, 1) := by decide +kernel
theorem dX7_house_52 : decode cX7_house 52 = .ok (.invokevirtual 306, 3) := by decide +kernel
theorem dX7_house_55 : decode cX7_house 55 = .ok (.ifCond .eq 6, 3) := by decide +kernel
theorem dX7_house_58 : decode cX7_house 58 = .ok (.iinc 1 1, 3) := by decide +kernel
theorem dX7_house_61 : decode cX7_house 61 = .ok (.aload_n 0, 1) := by decide +kernel
theorem dX7_house_62 : decode cX7_house 62 = .ok (.iload_n 2, 1) := by decide +kernel
theorem dX7_house_63 : decode cX7_house 63 = .ok (.iload_n 3, 1) := by decide +kernel
theorem dX7_house_64 : decode cX7_house 64 = .ok (.iconst 1, 1) := by decide +kernel
theorem dX7_house_65 : decode cX7_house 65 = .ok (.invokevirtual 306, 3) := by decide +kernel
theorem dX7_house_68 : decode cX7_house 68 = .ok (.ifCond .eq 6, 3) := by decide +kernel
theorem dX7_house_71 : decode cX7_house 71 = .ok (.iinc 1 (-1), 3) := by decide +kernel
theorem dX7_house_74 : decode cX7_house 74 = .ok (.iinc 3 1, 3) := by decide +kernel
theorem dX7_house_77 : decode cX7_house 77 = .ok (.goto (-60), 3) := by decide +kernel
theorem dX7_house_80 : decode cX7_house 80 = .ok (.iinc 2 1, 3) := by decide +kernel
theorem dX7_house_83 : decode cX7_house 83 = .ok (.goto (-74), 3) := by decide +kernel
theorem dX7_house_86 : decode cX7_house 86 = .ok (.iload_n 1, 1) := by decide +kernel
theorem dX7_house_87 : decode cX7_house 87 = .ok (.ifCond .ne 7, 3) := by decide +kernel
theorem dX7_house_90 : decode cX7_house 90 = .ok (.iconst (-1), 1) := by decide +kernel
theorem dX7_house_91 : decode cX7_house 91 = .ok (.goto 12, 3) := by decide +kernel
theorem dX7_house_94 : decode cX7_house 94 = .ok (.iload_n 1, 1) := by decide +kernel
theorem dX7_house_95 : decode cX7_house 95 = .ok (.ifCond .le 7, 3) := by decide +kernel
theorem dX7_house_98 : decode cX7_house 98 = .ok (.iconst 0, 1) := by decide +kernel
theorem dX7_house_99 : decode cX7_house 99 = .ok (.goto 4, 3) := by decide +kernel
theorem dX7_house_102 : decode cX7_house 102 = .ok (.iconst 1, 1) := by decide +kernel
theorem dX7_house_103 : decode cX7_house 103 = .ok (.ireturn, 1) := by decide +kernel
theorem dX7_told_0 : decode cX7_told 0 = .ok (.aload_n 0, 1) := by decide +kernel
theorem dX7_told_1 : decode cX7_told 1 = .ok (.iconst 0, 1) := by decide +kernel
theorem dX7_told_2 : decode cX7_told 2 = .ok (.putfield 78, 3) := by decide +kernel
theorem dX7_told_5 : decode cX7_told 5 = .ok (.aload_n 0, 1) := by decide +kernel
theorem dX7_told_6 : decode cX7_told 6 = .ok (.iload_n 1, 1) := by decide +kernel
theorem dX7_told_7 : decode cX7_told 7 = .ok (.iconst (-1), 1) := by decide +kernel
theorem dX7_told_8 : decode cX7_told 8 = .ok (.if_icmp .lt 15, 3) := by decide +kernel
theorem dX7_told_11 : decode cX7_told 11 = .ok (.iload_n 1, 1) := by decide +kernel
theorem dX7_told_12 : decode cX7_told 12 = .ok (.aload_n 0, 1) := by decide +kernel
theorem dX7_told_13 : decode cX7_told 13 = .ok (.getfield 264, 3) := by decide +kernel
theorem dX7_told_16 : decode cX7_told 16 = .ok (.if_icmp .ge 7, 3) := by decide +kernel
theorem dX7_told_19 : decode cX7_told 19 = .ok (.iconst 1, 1) := by decide +kernel
theorem dX7_told_20 : decode cX7_told 20 = .ok (.goto 4, 3) := by decide +kernel
theorem dX7_told_23 : decode cX7_told 23 = .ok (.iconst 0, 1) := by decide +kernel
theorem dX7_told_24 : decode cX7_told 24 = .ok (.iconst 1, 1) := by decide +kernel
theorem dX7_told_25 : decode cX7_told 25 = .ok (.invokevirtual 208, 3) := by decide +kernel
theorem dX7_told_28 : decode cX7_told 28 = .ok (.ifCond .ne 5, 3) := by decide +kernel
theorem dX7_told_31 : decode cX7_told 31 = .ok (.iconst 0, 1) := by decide +kernel
theorem dX7_told_32 : decode cX7_told 32 = .ok (.ireturn, 1) := by decide +kernel
theorem dX7_told_33 : decode cX7_told 33 = .ok (.iload_n 1, 1) := by decide +kernel
theorem dX7_told_34 : decode cX7_told 34 = .ok (.iconst (-1), 1) := by decide +kernel
theorem dX7_told_35 : decode cX7_told 35 = .ok (.if_icmp .ne 10, 3) := by decide +kernel
theorem dX7_told_38 : decode cX7_told 38 = .ok (.aload_n 0, 1) := by decide +kernel
theorem dX7_told_39 : decode cX7_told 39 = .ok (.getfield 264, 3) := by decide +kernel
theorem dX7_told_42 : decode cX7_told 42 = .ok (.goto 9, 3) := by decide +kernel
theorem dX7_told_45 : decode cX7_told 45 = .ok (.aload_n 0, 1) := by decide +kernel
theorem dX7_told_46 : decode cX7_told 46 = .ok (.getfield 57, 3) := by decide +kernel
theorem dX7_told_49 : decode cX7_told 49 = .ok (.iload_n 1, 1) := by decide +kernel
theorem dX7_told_50 : decode cX7_told 50 = .ok (.iaload, 1) := by decide +kernel
theorem dX7_told_51 : decode cX7_told 51 = .ok (.ireturn, 1) := by decide +kernel
theorem dX7_take_0 : decode cX7_take 0 = .ok (.aload_n 0, 1) := by decide +kernel
theorem dX7_take_1 : decode cX7_take 1 = .ok (.iload_n 1, 1) := by decide +kernel
theorem dX7_take_2 : decode cX7_take 2 = .ok (.invokevirtual 216, 3) := by decide +kernel
theorem dX7_take_5 : decode cX7_take 5 = .ok (.ifCond .ne 5, 3) := by decide +kernel
theorem dX7_take_8 : decode cX7_take 8 = .ok (.iconst 0, 1) := by decide +kernel
theorem dX7_take_9 : decode cX7_take 9 = .ok (.ireturn, 1) := by decide +kernel
theorem dX7_take_10 : decode cX7_take 10 = .ok (.aload_n 0, 1) := by decide +kernel
theorem dX7_take_11 : decode cX7_take 11 = .ok (.getfield 60, 3) := by decide +kernel
theorem dX7_take_14 : decode cX7_take 14 = .ok (.iload_n 1, 1) := by decide +kernel
theorem dX7_take_15 : decode cX7_take 15 = .ok (.if_icmp .ne 20, 3) := by decide +kernel
theorem dX7_take_18 : decode cX7_take 18 = .ok (.aload_n 0, 1) := by decide +kernel
theorem dX7_take_19 : decode cX7_take 19 = .ok (.getfield 264, 3) := by decide +kernel
theorem dX7_take_22 : decode cX7_take 22 = .ok (.ifCond .eq 13, 3) := by decide +kernel
theorem dX7_take_25 : decode cX7_take 25 = .ok (.aload_n 0, 1) := by decide +kernel
theorem dX7_take_26 : decode cX7_take 26 = .ok (.getfield 264, 3) := by decide +kernel
theorem dX7_take_29 : decode cX7_take 29 = .ok (.sipush 800, 3) := by decide +kernel
theorem dX7_take_32 : decode cX7_take 32 = .ok (.if_icmp .le 5, 3) := by decide +kernel
theorem dX7_take_35 : decode cX7_take 35 = .ok (.iconst 0, 1) := by decide +kernel
theorem dX7_take_36 : decode cX7_take 36 = .ok (.ireturn, 1) := by decide +kernel
theorem dX7_take_37 : decode cX7_take 37 = .ok (.aload_n 0, 1) := by decide +kernel
theorem dX7_take_38 : decode cX7_take 38 = .ok (.getfield 24, 3) := by decide +kernel
theorem dX7_take_41 : decode cX7_take 41 = .ok (.bipush 12, 2) := by decide +kernel
theorem dX7_take_43 : decode cX7_take 43 = .ok (.aload_n 0, 1) := by decide +kernel
theorem dX7_take_44 : decode cX7_take 44 = .ok (.getfield 264, 3) := by decide +kernel
theorem dX7_take_47 : decode cX7_take 47 = .ok (.iastore, 1) := by decide +kernel
theorem dX7_take_48 : decode cX7_take 48 = .ok (.iconst 0, 1) := by decide +kernel
theorem dX7_take_49 : decode cX7_take 49 = .ok (.istore_n 2, 1) := by decide +kernel
theorem dX7_take_50 : decode cX7_take 50 = .ok (.iload_n 2, 1) := by decide +kernel
theorem dX7_take_51 : decode cX7_take 51 = .ok (.aload_n 0, 1) := by decide +kernel
theorem dX7_take_52 : decode cX7_take 52 = .ok (.getfield 264, 3) := by decide +kernel
theorem dX7_take_55 : decode cX7_take 55 = .ok (.if_icmp .ge 25, 3) := by decide +kernel
theorem dX7_take_58 : decode cX7_take 58 = .ok (.aload_n 0, 1) := by decide +kernel
theorem dX7_take_59 : decode cX7_take 59 = .ok (.getfield 21, 3) := by decide +kernel
theorem dX7_take_62 : decode cX7_take 62 = .ok (.sipush 9600, 3) := by decide +kernel
theorem dX7_take_65 : decode cX7_take 65 = .ok (.iload_n 2, 1) := by decide +kernel
theorem dX7_take_66 : decode cX7_take 66 = .ok (.iadd, 1) := by decide +kernel
theorem dX7_take_67 : decode cX7_take 67 = .ok (.aload_n 0, 1) := by decide +kernel
theorem dX7_take_68 : decode cX7_take 68 = .ok (.getfield 57, 3) := by decide +kernel
theorem dX7_take_71 : decode cX7_take 71 = .ok (.iload_n 2, 1) := by decide +kernel
theorem dX7_take_72 : decode cX7_take 72 = .ok (.iaload, 1) := by decide +kernel
theorem dX7_take_73 : decode cX7_take 73 = .ok (.iastore, 1) := by decide +kernel
theorem dX7_take_74 : decode cX7_take 74 = .ok (.iinc 2 1, 3) := by decide +kernel
theorem dX7_take_77 : decode cX7_take 77 = .ok (.goto (-27), 3) := by decide +kernel
theorem dX7_take_80 : decode cX7_take 80 = .ok (.aload_n 0, 1) := by decide +kernel
theorem dX7_take_81 : decode cX7_take 81 = .ok (.iconst (-1), 1) := by decide +kernel
theorem dX7_take_82 : decode cX7_take 82 = .ok (.putfield 60, 3) := by decide +kernel
theorem dX7_take_85 : decode cX7_take 85 = .ok (.aload_n 0, 1) := by decide +kernel
theorem dX7_take_86 : decode cX7_take 86 = .ok (.getfield 119, 3) := by decide +kernel
theorem dX7_take_89 : decode cX7_take 89 = .ok (.istore_n 2, 1) := by decide +kernel
theorem dX7_take_90 : decode cX7_take 90 = .ok (.aload_n 0, 1) := by decide +kernel
theorem dX7_take_91 : decode cX7_take 91 = .ok (.getfield 13, 3) := by decide +kernel
theorem dX7_take_94 : decode cX7_take 94 = .ok (.istore_n 3, 1) := by decide +kernel
theorem dX7_take_95 : decode cX7_take 95 = .ok (.aload_n 0, 1) := by decide +kernel
theorem dX7_take_96 : decode cX7_take 96 = .ok (.iload_n 1, 1) := by decide +kernel
theorem dX7_take_97 : decode cX7_take 97 = .ok (.aload_n 0, 1) := by decide +kernel
theorem dX7_take_98 : decode cX7_take 98 = .ok (.getfield 27, 3) := by decide +kernel
theorem dX7_take_101 : decode cX7_take 101 = .ok (.iload_n 1, 1) := by decide +kernel
theorem dX7_take_102 : decode cX7_take 102 = .ok (.iaload, 1) := by decide +kernel
theorem dX7_take_103 : decode cX7_take 103 = .ok (.invokevirtual 212, 3) := by decide +kernel
theorem dX7_take_106 : decode cX7_take 106 = .ok (.istore 4, 2) := by decide +kernel
theorem dX7_take_108 : decode cX7_take 108 = .ok (.aload_n 0, 1) := by decide +kernel
theorem dX7_take_109 : decode cX7_take 109 = .ok (.iload_n 2, 1) := by decide +kernel
theorem dX7_take_110 : decode cX7_take 110 = .ok (.putfield 119, 3) := by decide +kernel
theorem dX7_take_113 : decode cX7_take 113 = .ok (.aload_n 0, 1) := by decide +kernel
theorem dX7_take_114 : decode cX7_take 114 = .ok (.iload_n 3, 1) := by decide +kernel
theorem dX7_take_115 : decode cX7_take 115 = .ok (.putfield 13, 3) := by decide +kernel
theorem dX7_take_118 : decode cX7_take 118 = .ok (.iload 4, 2) := by decide +kernel
theorem dX7_take_120 : decode cX7_take 120 = .ok (.ireturn, 1) := by decide +kernel
theorem dX7_alike_0 : decode cX7_alike 0 = .ok (.aload_n 0, 1) := by decide +kernel
theorem dX7_alike_1 : decode cX7_alike 1 = .ok (.iload_n 1, 1) := by decide +kernel
theorem dX7_alike_2 : decode cX7_alike 2 = .ok (.invokevirtual 216, 3) := by decide +kernel
theorem dX7_alike_5 : decode cX7_alike 5 = .ok (.ifCond .eq 11, 3) := by decide +kernel
theorem dX7_alike_8 : decode cX7_alike 8 = .ok (.aload_n 0, 1) := by decide +kernel
theorem dX7_alike_9 : decode cX7_alike 9 = .ok (.iload_n 2, 1) := by decide +kernel
theorem dX7_alike_10 : decode cX7_alike 10 = .ok (.invokevirtual 216, 3) := by decide +kernel
theorem dX7_alike_13 : decode cX7_alike 13 = .ok (.ifCond .ne 5, 3) := by decide +kernel
theorem dX7_alike_16 : decode cX7_alike 16 = .ok (.iconst 0, 1) := by decide +kernel
theorem dX7_alike_17 : decode cX7_alike 17 = .ok (.ireturn, 1) := by decide +kernel
theorem dX7_alike_18 : decode cX7_alike 18 = .ok (.aload_n 0, 1) := by decide +kernel
theorem dX7_alike_19 : decode cX7_alike 19 = .ok (.getfield 30, 3) := by decide +kernel
theorem dX7_alike_22 : decode cX7_alike 22 = .ok (.iload_n 1, 1) := by decide +kernel
theorem dX7_alike_23 : decode cX7_alike 23 = .ok (.iaload, 1) := by decide +kernel
theorem dX7_alike_24 : decode cX7_alike 24 = .ok (.aload_n 0, 1) := by decide +kernel
theorem dX7_alike_25 : decode cX7_alike 25 = .ok (.getfield 30, 3) := by decide +kernel
theorem dX7_alike_28 : decode cX7_alike 28 = .ok (.iload_n 2, 1) := by decide +kernel
theorem dX7_alike_29 : decode cX7_alike 29 = .ok (.iaload, 1) := by decide +kernel
theorem dX7_alike_30 : decode cX7_alike 30 = .ok (.if_icmp .ne 7, 3) := by decide +kernel
theorem dX7_alike_33 : decode cX7_alike 33 = .ok (.iconst 1, 1) := by decide +kernel
theorem dX7_alike_34 : decode cX7_alike 34 = .ok (.goto 4, 3) := by decide +kernel
theorem dX7_alike_37 : decode cX7_alike 37 = .ok (.iconst 0, 1) := by decide +kernel
theorem dX7_alike_38 : decode cX7_alike 38 = .ok (.istore_n 3, 1) := by decide +kernel
theorem dX7_alike_39 : decode cX7_alike 39 = .ok (.iconst 0, 1) := by decide +kernel
theorem dX7_alike_40 : decode cX7_alike 40 = .ok (.istore 4, 2) := by decide +kernel
theorem dX7_alike_42 : decode cX7_alike 42 = .ok (.iload 4, 2) := by decide +kernel
theorem dX7_alike_44 : decode cX7_alike 44 = .ok (.aload_n 0, 1) := by decide +kernel
theorem dX7_alike_45 : decode cX7_alike 45 = .ok (.getfield 30, 3) := by decide +kernel
theorem dX7_alike_48 : decode cX7_alike 48 = .ok (.iload_n 1, 1) := by decide +kernel
theorem dX7_alike_49 : decode cX7_alike 49 = .ok (.iaload, 1) := by decide +kernel
theorem dX7_alike_50 : decode cX7_alike 50 = .ok (.if_icmp .ge 24, 3) := by decide +kernel
theorem dX7_alike_53 : decode cX7_alike 53 = .ok (.iload_n 3, 1) := by decide +kernel
theorem dX7_alike_54 : decode cX7_alike 54 = .ok (.ifCond .eq 20, 3) := by decide +kernel
theorem dX7_alike_57 : decode cX7_alike 57 = .ok (.aload_n 0, 1) := by decide +kernel
theorem dX7_alike_58 : decode cX7_alike 58 = .ok (.iload_n 1, 1) := by decide +kernel
theorem dX7_alike_59 : decode cX7_alike 59 = .ok (.iload 4, 2) := by decide +kernel
theorem dX7_alike_61 : decode cX7_alike 61 = .ok (.iload_n 2, 1) := by decide +kernel
theorem dX7_alike_62 : decode cX7_alike 62 = .ok (.iload 4, 2) := by decide +kernel
theorem dX7_alike_64 : decode cX7_alike 64 = .ok (.invokevirtual 296, 3) := by decide +kernel
theorem dX7_alike_67 : decode cX7_alike 67 = .ok (.istore_n 3, 1) := by decide +kernel
theorem dX7_alike_68 : decode cX7_alike 68 = .ok (.iinc 4 1, 3) := by decide +kernel
theorem dX7_alike_71 : decode cX7_alike 71 = .ok (.goto (-29), 3) := by decide +kernel
theorem dX7_alike_74 : decode cX7_alike 74 = .ok (.iload_n 3, 1) := by decide +kernel
theorem dX7_alike_75 : decode cX7_alike 75 = .ok (.ireturn, 1) := by decide +kernel
