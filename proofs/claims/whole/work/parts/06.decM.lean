theorem dX8_in_0 : decode cX8_in 0 = .ok (.iload_n 0, 1) := by decide +kernel
theorem dX8_in_1 : decode cX8_in 1 = .ok (.iload_n 1, 1) := by decide +kernel
theorem dX8_in_2 : decode cX8_in 2 = .ok (.if_icmp .lt 12, 3) := by decide +kernel
theorem dX8_in_5 : decode cX8_in 5 = .ok (.iload_n 0, 1) := by decide +kernel
theorem dX8_in_6 : decode cX8_in 6 = .ok (.iload_n 2, 1) := by decide +kernel
theorem dX8_in_7 : decode cX8_in 7 = .ok (.if_icmp .gt 7, 3) := by decide +kernel
theorem dX8_in_10 : decode cX8_in 10 = .ok (.iconst 1, 1) := by decide +kernel
theorem dX8_in_11 : decode cX8_in 11 = .ok (.goto 4, 3) := by decide +kernel
theorem dX8_in_14 : decode cX8_in 14 = .ok (.iconst 0, 1) := by decide +kernel
theorem dX8_in_15 : decode cX8_in 15 = .ok (.ireturn, 1) := by decide +kernel
theorem dX8_init_0 : decode cX8_init 0 = .ok (.aload_n 0, 1) := by decide +kernel
theorem dX8_init_1 : decode cX8_init 1 = .ok (.invokespecial 7, 3) := by decide +kernel
theorem dX8_init_4 : decode cX8_init 4 = .ok (.aload_n 0, 1) := by decide +kernel
theorem dX8_init_5 : decode cX8_init 5 = .ok (.bipush 20, 2) := by decide +kernel
theorem dX8_init_7 : decode cX8_init 7 = .ok (.putfield 13, 3) := by decide +kernel
theorem dX8_init_10 : decode cX8_init 10 = .ok (.aload_n 0, 1) := by decide +kernel
theorem dX8_init_11 : decode cX8_init 11 = .ok (.bipush 120, 2) := by decide +kernel
theorem dX8_init_13 : decode cX8_init 13 = .ok (.newarray .int, 2) := by decide +kernel
theorem dX8_init_15 : decode cX8_init 15 = .ok (.putfield 16, 3) := by decide +kernel
theorem dX8_init_18 : decode cX8_init 18 = .ok (.aload_n 0, 1) := by decide +kernel
theorem dX8_init_19 : decode cX8_init 19 = .ok (.bipush 120, 2) := by decide +kernel
theorem dX8_init_21 : decode cX8_init 21 = .ok (.newarray .int, 2) := by decide +kernel
theorem dX8_init_23 : decode cX8_init 23 = .ok (.putfield 20, 3) := by decide +kernel
theorem dX8_init_26 : decode cX8_init 26 = .ok (.aload_n 0, 1) := by decide +kernel
theorem dX8_init_27 : decode cX8_init 27 = .ok (.bipush 120, 2) := by decide +kernel
theorem dX8_init_29 : decode cX8_init 29 = .ok (.newarray .int, 2) := by decide +kernel
theorem dX8_init_31 : decode cX8_init 31 = .ok (.putfield 23, 3) := by decide +kernel
theorem dX8_init_34 : decode cX8_init 34 = .ok (.aload_n 0, 1) := by decide +kernel
theorem dX8_init_35 : decode cX8_init 35 = .ok (.bipush 120, 2) := by decide +kernel
theorem dX8_init_37 : decode cX8_init 37 = .ok (.newarray .int, 2) := by decide +kernel
theorem dX8_init_39 : decode cX8_init 39 = .ok (.putfield 26, 3) := by decide +kernel
theorem dX8_init_42 : decode cX8_init 42 = .ok (.aload_n 0, 1) := by decide +kernel
theorem dX8_init_43 : decode cX8_init 43 = .ok (.iconst 1, 1) := by decide +kernel
theorem dX8_init_44 : decode cX8_init 44 = .ok (.putfield 29, 3) := by decide +kernel
theorem dX8_init_47 : decode cX8_init 47 = .ok (.aload_n 0, 1) := by decide +kernel
theorem dX8_init_48 : decode cX8_init 48 = .ok (.sipush 200, 3) := by decide +kernel
theorem dX8_init_51 : decode cX8_init 51 = .ok (.newarray .int, 2) := by decide +kernel
theorem dX8_init_53 : decode cX8_init 53 = .ok (.putfield 32, 3) := by decide +kernel
theorem dX8_init_56 : decode cX8_init 56 = .ok (.aload_n 0, 1) := by decide +kernel
theorem dX8_init_57 : decode cX8_init 57 = .ok (.sipush 200, 3) := by decide +kernel
theorem dX8_init_60 : decode cX8_init 60 = .ok (.newarray .int, 2) := by decide +kernel
theorem dX8_init_62 : decode cX8_init 62 = .ok (.putfield 35, 3) := by decide +kernel
theorem dX8_init_65 : decode cX8_init 65 = .ok (.aload_n 0, 1) := by decide +kernel
theorem dX8_init_66 : decode cX8_init 66 = .ok (.sipush 200, 3) := by decide +kernel
theorem dX8_init_69 : decode cX8_init 69 = .ok (.newarray .int, 2) := by decide +kernel
theorem dX8_init_71 : decode cX8_init 71 = .ok (.putfield 38, 3) := by decide +kernel
theorem dX8_init_74 : decode cX8_init 74 = .ok (.aload_n 0, 1) := by decide +kernel
theorem dX8_init_75 : decode cX8_init 75 = .ok (.bipush 6, 2) := by decide +kernel
theorem dX8_init_77 : decode cX8_init 77 = .ok (.newarray .int, 2) := by decide +kernel
theorem dX8_init_79 : decode cX8_init 79 = .ok (.putfield 41, 3) := by decide +kernel
theorem dX8_init_82 : decode cX8_init 82 = .ok (.aload_n 0, 1) := by decide +kernel
theorem dX8_init_83 : decode cX8_init 83 = .ok (.bipush 6, 2) := by decide +kernel
theorem dX8_init_85 : decode cX8_init 85 = .ok (.newarray .int, 2) := by decide +kernel
theorem dX8_init_87 : decode cX8_init 87 = .ok (.putfield 44, 3) := by decide +kernel
theorem dX8_init_90 : decode cX8_init 90 = .ok (.aload_n 0, 1) := by decide +kernel
theorem dX8_init_91 : decode cX8_init 91 = .ok (.bipush 6, 2) := by decide +kernel
theorem dX8_init_93 : decode cX8_init 93 = .ok (.newarray .int, 2) := by decide +kernel
theorem dX8_init_95 : decode cX8_init 95 = .ok (.putfield 47, 3) := by decide +kernel
theorem dX8_init_98 : decode cX8_init 98 = .ok (.aload_n 0, 1) := by decide +kernel
theorem dX8_init_99 : decode cX8_init 99 = .ok (.bipush 48, 2) := by decide +kernel
theorem dX8_init_101 : decode cX8_init 101 = .ok (.newarray .boolean, 2) := by decide +kernel
theorem dX8_init_103 : decode cX8_init 103 = .ok (.putfield 50, 3) := by decide +kernel
theorem dX8_init_106 : decode cX8_init 106 = .ok (.aload_n 0, 1) := by decide +kernel
theorem dX8_init_107 : decode cX8_init 107 = .ok (.bipush 48, 2) := by decide +kernel
theorem dX8_init_109 : decode cX8_init 109 = .ok (.newarray .int, 2) := by decide +kernel
theorem dX8_init_111 : decode cX8_init 111 = .ok (.putfield 54, 3) := by decide +kernel
theorem dX8_init_114 : decode cX8_init 114 = .ok (.aload_n 0, 1) := by decide +kernel
theorem dX8_init_115 : decode cX8_init 115 = .ok (.bipush 48, 2) := by decide +kernel
theorem dX8_init_117 : decode cX8_init 117 = .ok (.newarray .int, 2) := by decide +kernel
theorem dX8_init_119 : decode cX8_init 119 = .ok (.putfield 57, 3) := by decide +kernel
theorem dX8_init_122 : decode cX8_init 122 = .ok (.aload_n 0, 1) := by decide +kernel
theorem dX8_init_123 : decode cX8_init 123 = .ok (.bipush 48, 2) := by decide +kernel
theorem dX8_init_125 : decode cX8_init 125 = .ok (.newarray .int, 2) := by decide +kernel
theorem dX8_init_127 : decode cX8_init 127 = .ok (.putfield 60, 3) := by decide +kernel
theorem dX8_init_130 : decode cX8_init 130 = .ok (.aload_n 0, 1) := by decide +kernel
theorem dX8_init_131 : decode cX8_init 131 = .ok (.bipush 48, 2) := by decide +kernel
theorem dX8_init_133 : decode cX8_init 133 = .ok (.newarray .int, 2) := by decide +kernel
theorem dX8_init_135 : decode cX8_init 135 = .ok (.putfield 63, 3) := by decide +kernel
theorem dX8_init_138 : decode cX8_init 138 = .ok (.aload_n 0, 1) := by decide +kernel
theorem dX8_init_139 : decode cX8_init 139 = .ok (.bipush 48, 2) := by decide +kernel
theorem dX8_init_141 : decode cX8_init 141 = .ok (.newarray .int, 2) := by decide +kernel
theorem dX8_init_143 : decode cX8_init 143 = .ok (.putfield 66, 3) := by decide +kernel
theorem dX8_init_146 : decode cX8_init 146 = .ok (.aload_n 0, 1) := by decide +kernel
theorem dX8_init_147 : decode cX8_init 147 = .ok (.bipush 64, 2) := by decide +kernel
theorem dX8_init_149 : decode cX8_init 149 = .ok (.newarray .boolean, 2) := by decide +kernel
theorem dX8_init_151 : decode cX8_init 151 = .ok (.putfield 69, 3) := by decide +kernel
theorem dX8_init_154 : decode cX8_init 154 = .ok (.aload_n 0, 1) := by decide +kernel
theorem dX8_init_155 : decode cX8_init 155 = .ok (.bipush 64, 2) := by decide +kernel
theorem dX8_init_157 : decode cX8_init 157 = .ok (.newarray .int, 2) := by decide +kernel
theorem dX8_init_159 : decode cX8_init 159 = .ok (.putfield 72, 3) := by decide +kernel
theorem dX8_init_162 : decode cX8_init 162 = .ok (.aload_n 0, 1) := by decide +kernel
theorem dX8_init_163 : decode cX8_init 163 = .ok (.bipush 8, 2) := by decide +kernel
theorem dX8_init_165 : decode cX8_init 165 = .ok (.newarray .int, 2) := by decide +kernel
theorem dX8_init_167 : decode cX8_init 167 = .ok (.putfield 75, 3) := by decide +kernel
theorem dX8_init_170 : decode cX8_init 170 = .ok (.aload_n 0, 1) := by decide +kernel
theorem dX8_init_171 : decode cX8_init 171 = .ok (.bipush 24, 2) := by decide +kernel
theorem dX8_init_173 : decode cX8_init 173 = .ok (.newarray .int, 2) := by decide +kernel
theorem dX8_init_175 : decode cX8_init 175 = .ok (.putfield 78, 3) := by decide +kernel
theorem dX8_init_178 : decode cX8_init 178 = .ok (.aload_n 0, 1) := by decide +kernel
theorem dX8_init_179 : decode cX8_init 179 = .ok (.bipush 20, 2) := by decide +kernel
theorem dX8_init_181 : decode cX8_init 181 = .ok (.newarray .int, 2) := by decide +kernel
theorem dX8_init_183 : decode cX8_init 183 = .ok (.putfield 81, 3) := by decide +kernel
theorem dX8_init_186 : decode cX8_init 186 = .ok (.aload_n 0, 1) := by decide +kernel
theorem dX8_init_187 : decode cX8_init 187 = .ok (.bipush 20, 2) := by decide +kernel
theorem dX8_init_189 : decode cX8_init 189 = .ok (.newarray .int, 2) := by decide +kernel
theorem dX8_init_191 : decode cX8_init 191 = .ok (.putfield 84, 3) := by decide +kernel
theorem dX8_init_194 : decode cX8_init 194 = .ok (.aload_n 0, 1) := by decide +kernel
theorem dX8_init_195 : decode cX8_init 195 = .ok (.bipush 20, 2) := by decide +kernel
theorem dX8_init_197 : decode cX8_init 197 = .ok (.newarray .int, 2) := by decide +kernel
theorem dX8_init_199 : decode cX8_init 199 = .ok (.putfield 87, 3) := by decide +kernel
theorem dX8_init_202 : decode cX8_init 202 = .ok (.aload_n 0, 1) := by decide +kernel
theorem dX8_init_203 : decode cX8_init 203 = .ok (.bipush 20, 2) := by decide +kernel
theorem dX8_init_205 : decode cX8_init 205 = .ok (.newarray .int, 2) := by decide +kernel
theorem dX8_init_207 : decode cX8_init 207 = .ok (.putfield 90, 3) := by decide +kernel
theorem dX8_init_210 : decode cX8_init 210 = .ok (.aload_n 0, 1) := by decide +kernel
theorem dX8_init_211 : decode cX8_init 211 = .ok (.bipush 20, 2) := by decide +kernel
theorem dX8_init_213 : decode cX8_init 213 = .ok (.newarray .int, 2) := by decide +kernel
theorem dX8_init_215 : decode cX8_init 215 = .ok (.putfield 93, 3) := by decide +kernel
theorem dX8_init_218 : decode cX8_init 218 = .ok (.aload_n 0, 1) := by decide +kernel
theorem dX8_init_219 : decode cX8_init 219 = .ok (.ldc 96, 2) := by decide +kernel
theorem dX8_init_221 : decode cX8_init 221 = .ok (.newarray .int, 2) := by decide +kernel
theorem dX8_init_223 : decode cX8_init 223 = .ok (.putfield 97, 3) := by decide +kernel
theorem dX8_init_226 : decode cX8_init 226 = .ok (.iconst 0, 1) := by decide +kernel
theorem dX8_init_227 : decode cX8_init 227 = .ok (.istore_n 1, 1) := by decide +kernel
theorem dX8_init_228 : decode cX8_init 228 = .ok (.iload_n 1, 1) := by decide +kernel
theorem dX8_init_229 : decode cX8_init 229 = .ok (.bipush 24, 2) := by decide +kernel
theorem dX8_init_231 : decode cX8_init 231 = .ok (.if_icmp .ge 16, 3) := by decide +kernel
theorem dX8_init_234 : decode cX8_init 234 = .ok (.aload_n 0, 1) := by decide +kernel
theorem dX8_init_235 : decode cX8_init 235 = .ok (.getfield 78, 3) := by decide +kernel
theorem dX8_init_238 : decode cX8_init 238 = .ok (.iload_n 1, 1) := by decide +kernel
theorem dX8_init_239 : decode cX8_init 239 = .ok (.iconst 1, 1) := by decide +kernel
theorem dX8_init_240 : decode cX8_init 240 = .ok (.iastore, 1) := by decide +kernel
theorem dX8_init_241 : decode cX8_init 241 = .ok (.iinc 1 1, 3) := by decide +kernel
theorem dX8_init_244 : decode cX8_init 244 = .ok (.goto (-16), 3) := by decide +kernel
theorem dX8_init_247 : decode cX8_init 247 = .ok (.aload_n 0, 1) := by decide +kernel
theorem dX8_init_248 : decode cX8_init 248 = .ok (.bipush 20, 2) := by decide +kernel
theorem dX8_init_250 : decode cX8_init 250 = .ok (.invokevirtual 100, 3) := by decide +kernel
theorem dX8_init_253 : decode cX8_init 253 = .ok (.istore_n 1, 1) := by decide +kernel
theorem dX8_init_254 : decode cX8_init 254 = .ok (.return_, 1) := by decide +kernel
theorem dX8_line_0 : decode cX8_line 0 = .ok (.iload_n 1, 1) := by decide +kernel
theorem dX8_line_1 : decode cX8_line 1 = .ok (.iconst 4, 1) := by decide +kernel
theorem dX8_line_2 : decode cX8_line 2 = .ok (.bipush 120, 2) := by decide +kernel
theorem dX8_line_4 : decode cX8_line 4 = .ok (.invokestatic 104, 3) := by decide +kernel
theorem dX8_line_7 : decode cX8_line 7 = .ok (.ifCond .ne 6, 3) := by decide +kernel
theorem dX8_line_10 : decode cX8_line 10 = .ok (.bipush (-2), 2) := by decide +kernel
theorem dX8_line_12 : decode cX8_line 12 = .ok (.ireturn, 1) := by decide +kernel
theorem dX8_line_13 : decode cX8_line 13 = .ok (.aload_n 0, 1) := by decide +kernel
theorem dX8_line_14 : decode cX8_line 14 = .ok (.iload_n 1, 1) := by decide +kernel
theorem dX8_line_15 : decode cX8_line 15 = .ok (.putfield 13, 3) := by decide +kernel
theorem dX8_line_18 : decode cX8_line 18 = .ok (.iconst 0, 1) := by decide +kernel
theorem dX8_line_19 : decode cX8_line 19 = .ok (.istore_n 2, 1) := by decide +kernel
theorem dX8_line_20 : decode cX8_line 20 = .ok (.iload_n 2, 1) := by decide +kernel
theorem dX8_line_21 : decode cX8_line 21 = .ok (.bipush 120, 2) := by decide +kernel
theorem dX8_line_23 : decode cX8_line 23 = .ok (.if_icmp .ge 37, 3) := by decide +kernel
theorem dX8_line_26 : decode cX8_line 26 = .ok (.aload_n 0, 1) := by decide +kernel
theorem dX8_line_27 : decode cX8_line 27 = .ok (.getfield 16, 3) := by decide +kernel
theorem dX8_line_30 : decode cX8_line 30 = .ok (.iload_n 2, 1) := by decide +kernel
theorem dX8_line_31 : decode cX8_line 31 = .ok (.iconst 0, 1) := by decide +kernel
theorem dX8_line_32 : decode cX8_line 32 = .ok (.iastore, 1) := by decide +kernel
theorem dX8_line_33 : decode cX8_line 33 = .ok (.aload_n 0, 1) := by decide +kernel
theorem dX8_line_34 : decode cX8_line 34 = .ok (.getfield 20, 3) := by decide +kernel
theorem dX8_line_37 : decode cX8_line 37 = .ok (.iload_n 2, 1) := by decide +kernel
theorem dX8_line_38 : decode cX8_line 38 = .ok (.iconst 0, 1) := by decide +kernel
theorem dX8_line_39 : decode cX8_line 39 = .ok (.iastore, 1) := by decide +kernel
theorem dX8_line_40 : decode cX8_line 40 = .ok (.aload_n 0, 1) := by decide +kernel
theorem dX8_line_41 : decode cX8_line 41 = .ok (.getfield 23, 3) := by decide +kernel
theorem dX8_line_44 : decode cX8_line 44 = .ok (.iload_n 2, 1) := by decide +kernel
theorem dX8_line_45 : decode cX8_line 45 = .ok (.iconst (-1), 1) := by decide +kernel
theorem dX8_line_46 : decode cX8_line 46 = .ok (.iastore, 1) := by decide +kernel
theorem dX8_line_47 : decode cX8_line 47 = .ok (.aload_n 0, 1) := by decide +kernel
theorem dX8_line_48 : decode cX8_line 48 = .ok (.getfield 26, 3) := by decide +kernel
theorem dX8_line_51 : decode cX8_line 51 = .ok (.iload_n 2, 1) := by decide +kernel
theorem dX8_line_52 : decode cX8_line 52 = .ok (.iconst 0, 1) := by decide +kernel
theorem dX8_line_53 : decode cX8_line 53 = .ok (.iastore, 1) := by decide +kernel
theorem dX8_line_54 : decode cX8_line 54 = .ok (.iinc 2 1, 3) := by decide +kernel
theorem dX8_line_57 : decode cX8_line 57 = .ok (.goto (-37), 3) := by decide +kernel
theorem dX8_line_60 : decode cX8_line 60 = .ok (.aload_n 0, 1) := by decide +kernel
theorem dX8_line_61 : decode cX8_line 61 = .ok (.iconst 1, 1) := by decide +kernel
theorem dX8_line_62 : decode cX8_line 62 = .ok (.putfield 29, 3) := by decide +kernel
theorem dX8_line_65 : decode cX8_line 65 = .ok (.aload_n 0, 1) := by decide +kernel
theorem dX8_line_66 : decode cX8_line 66 = .ok (.getfield 32, 3) := by decide +kernel
theorem dX8_line_69 : decode cX8_line 69 = .ok (.iconst 0, 1) := by decide +kernel
theorem dX8_line_70 : decode cX8_line 70 = .ok (.iconst 0, 1) := by decide +kernel
theorem dX8_line_71 : decode cX8_line 71 = .ok (.iastore, 1) := by decide +kernel
theorem dX8_line_72 : decode cX8_line 72 = .ok (.aload_n 0, 1) := by decide +kernel
theorem dX8_line_73 : decode cX8_line 73 = .ok (.getfield 35, 3) := by decide +kernel
theorem dX8_line_76 : decode cX8_line 76 = .ok (.iconst 0, 1) := by decide +kernel
theorem dX8_line_77 : decode cX8_line 77 = .ok (.iconst (-1), 1) := by decide +kernel
theorem dX8_line_78 : decode cX8_line 78 = .ok (.iastore, 1) := by decide +kernel
theorem dX8_line_79 : decode cX8_line 79 = .ok (.aload_n 0, 1) := by decide +kernel
theorem dX8_line_80 : decode cX8_line 80 = .ok (.getfield 38, 3) := by decide +kernel
theorem dX8_line_83 : decode cX8_line 83 = .ok (.iconst 0, 1) := by decide +kernel
theorem dX8_line_84 : decode cX8_line 84 = .ok (.iconst 0, 1) := by decide +kernel
theorem dX8_line_85 : decode cX8_line 85 = .ok (.iastore, 1) := by decide +kernel
theorem dX8_line_86 : decode cX8_line 86 = .ok (.aload_n 0, 1) := by decide +kernel
theorem dX8_line_87 : decode cX8_line 87 = .ok (.iconst 0, 1) := by decide +kernel
theorem dX8_line_88 : decode cX8_line 88 = .ok (.putfield 108, 3) := by decide +kernel
theorem dX8_line_91 : decode cX8_line 91 = .ok (.aload_n 0, 1) := by decide +kernel
theorem dX8_line_92 : decode cX8_line 92 = .ok (.iconst 0, 1) := by decide +kernel
theorem dX8_line_93 : decode cX8_line 93 = .ok (.putfield 111, 3) := by decide +kernel
theorem dX8_line_96 : decode cX8_line 96 = .ok (.aload_n 0, 1) := by decide +kernel
theorem dX8_line_97 : decode cX8_line 97 = .ok (.iconst 0, 1) := by decide +kernel
theorem dX8_line_98 : decode cX8_line 98 = .ok (.putfield 114, 3) := by decide +kernel
theorem dX8_line_101 : decode cX8_line 101 = .ok (.aload_n 0, 1) := by decide +kernel
theorem dX8_line_102 : decode cX8_line 102 = .ok (.iconst 0, 1) := by decide +kernel
theorem dX8_line_103 : decode cX8_line 103 = .ok (.putfield 117, 3) := by decide +kernel
theorem dX8_line_106 : decode cX8_line 106 = .ok (.aload_n 0, 1) := by decide +kernel
theorem dX8_line_107 : decode cX8_line 107 = .ok (.iconst 0, 1) := by decide +kernel
theorem dX8_line_108 : decode cX8_line 108 = .ok (.putfield 120, 3) := by decide +kernel
theorem dX8_line_111 : decode cX8_line 111 = .ok (.iconst 0, 1) := by decide +kernel
theorem dX8_line_112 : decode cX8_line 112 = .ok (.ireturn, 1) := by decide +kernel
theorem dX8_isDoor_0 : decode cX8_isDoor 0 = .ok (.iload_n 1, 1) := by decide +kernel
theorem dX8_isDoor_1 : decode cX8_isDoor 1 = .ok (.iconst 0, 1) := by decide +kernel
theorem dX8_isDoor_2 : decode cX8_isDoor 2 = .ok (.aload_n 0, 1) := by decide +kernel
theorem dX8_isDoor_3 : decode cX8_isDoor 3 = .ok (.getfield 108, 3) := by decide +kernel
theorem dX8_isDoor_6 : decode cX8_isDoor 6 = .ok (.iconst 1, 1) := by decide +kernel
theorem dX8_isDoor_7 : decode cX8_isDoor 7 = .ok (.isub, 1) := by decide +kernel
theorem dX8_isDoor_8 : decode cX8_isDoor 8 = .ok (.invokestatic 104, 3) := by decide +kernel
theorem dX8_isDoor_11 : decode cX8_isDoor 11 = .ok (.ireturn, 1) := by decide +kernel
theorem dX8_isKind_0 : decode cX8_isKind 0 = .ok (.iload_n 0, 1) := by decide +kernel
theorem dX8_isKind_1 : decode cX8_isKind 1 = .ok (.iconst 0, 1) := by decide +kernel
theorem dX8_isKind_2 : decode cX8_isKind 2 = .ok (.bipush 7, 2) := by decide +kernel
theorem dX8_isKind_4 : decode cX8_isKind 4 = .ok (.invokestatic 104, 3) := by decide +kernel
theorem dX8_isKind_7 : decode cX8_isKind 7 = .ok (.ireturn, 1) := by decide +kernel
theorem dX8_isTank_0 : decode cX8_isTank 0 = .ok (.aload_n 0, 1) := by decide +kernel
theorem dX8_isTank_1 : decode cX8_isTank 1 = .ok (.iload_n 1, 1) := by decide +kernel
theorem dX8_isTank_2 : decode cX8_isTank 2 = .ok (.invokevirtual 123, 3) := by decide +kernel
theorem dX8_isTank_5 : decode cX8_isTank 5 = .ok (.ifCond .eq 28, 3) := by decide +kernel
theorem dX8_isTank_8 : decode cX8_isTank 8 = .ok (.iload_n 2, 1) := by decide +kernel
theorem dX8_isTank_9 : decode cX8_isTank 9 = .ok (.invokestatic 127, 3) := by decide +kernel
theorem dX8_isTank_12 : decode cX8_isTank 12 = .ok (.ifCond .eq 21, 3) := by decide +kernel
theorem dX8_isTank_15 : decode cX8_isTank 15 = .ok (.aload_n 0, 1) := by decide +kernel
theorem dX8_isTank_16 : decode cX8_isTank 16 = .ok (.getfield 50, 3) := by decide +kernel
theorem dX8_isTank_19 : decode cX8_isTank 19 = .ok (.bipush 8, 2) := by decide +kernel
theorem dX8_isTank_21 : decode cX8_isTank 21 = .ok (.iload_n 1, 1) := by decide +kernel
theorem dX8_isTank_22 : decode cX8_isTank 22 = .ok (.imul, 1) := by decide +kernel
theorem dX8_isTank_23 : decode cX8_isTank 23 = .ok (.iload_n 2, 1) := by decide +kernel
theorem dX8_isTank_24 : decode cX8_isTank 24 = .ok (.iadd, 1) := by decide +kernel
theorem dX8_isTank_25 : decode cX8_isTank 25 = .ok (.baload, 1) := by decide +kernel
theorem dX8_isTank_26 : decode cX8_isTank 26 = .ok (.ifCond .eq 7, 3) := by decide +kernel
theorem dX8_isTank_29 : decode cX8_isTank 29 = .ok (.iconst 1, 1) := by decide +kernel
theorem dX8_isTank_30 : decode cX8_isTank 30 = .ok (.goto 4, 3) := by decide +kernel
theorem dX8_isTank_33 : decode cX8_isTank 33 = .ok (.iconst 0, 1) := by decide +kernel
theorem dX8_isTank_34 : decode cX8_isTank 34 = .ok (.ireturn, 1) := by decide +kernel
theorem dX8_door_0 : decode cX8_door 0 = .ok (.iload_n 1, 1) := by decide +kernel
theorem dX8_door_1 : decode cX8_door 1 = .ok (.iconst 0, 1) := by decide +kernel
theorem dX8_door_2 : decode cX8_door 2 = .ok (.aload_n 0, 1) := by decide +kernel
theorem dX8_door_3 : decode cX8_door 3 = .ok (.getfield 13, 3) := by decide +kernel
theorem dX8_door_6 : decode cX8_door 6 = .ok (.invokestatic 104, 3) := by decide +kernel
theorem dX8_door_9 : decode cX8_door 9 = .ok (.ifCond .ne 6, 3) := by decide +kernel
theorem dX8_door_12 : decode cX8_door 12 = .ok (.bipush (-2), 2) := by decide +kernel
theorem dX8_door_14 : decode cX8_door 14 = .ok (.ireturn, 1) := by decide +kernel
theorem dX8_door_15 : decode cX8_door 15 = .ok (.iconst 0, 1) := by decide +kernel
theorem dX8_door_16 : decode cX8_door 16 = .ok (.istore_n 2, 1) := by decide +kernel
theorem dX8_door_17 : decode cX8_door 17 = .ok (.iload_n 2, 1) := by decide +kernel
theorem dX8_door_18 : decode cX8_door 18 = .ok (.aload_n 0, 1) := by decide +kernel
theorem dX8_door_19 : decode cX8_door 19 = .ok (.getfield 108, 3) := by decide +kernel
theorem dX8_door_22 : decode cX8_door 22 = .ok (.if_icmp .ge 22, 3) := by decide +kernel
theorem dX8_door_25 : decode cX8_door 25 = .ok (.aload_n 0, 1) := by decide +kernel
theorem dX8_door_26 : decode cX8_door 26 = .ok (.getfield 41, 3) := by decide +kernel
theorem dX8_door_29 : decode cX8_door 29 = .ok (.iload_n 2, 1) := by decide +kernel
theorem dX8_door_30 : decode cX8_door 30 = .ok (.iaload, 1) := by decide +kernel
theorem dX8_door_31 : decode cX8_door 31 = .ok (.iload_n 1, 1) := by decide +kernel
theorem dX8_door_32 : decode cX8_door 32 = .ok (.if_icmp .ne 6, 3) := by decide +kernel
theorem dX8_door_35 : decode cX8_door 35 = .ok (.bipush (-3), 2) := by decide +kernel
theorem dX8_door_37 : decode cX8_door 37 = .ok (.ireturn, 1) := by decide +kernel
theorem dX8_door_38 : decode cX8_door 38 = .ok (.iinc 2 1, 3) := by decide +kernel
theorem dX8_door_41 : decode cX8_door 41 = .ok (.goto (-24), 3) := by decide +kernel
theorem dX8_door_44 : decode cX8_door 44 = .ok (.aload_n 0, 1) := by decide +kernel
theorem dX8_door_45 : decode cX8_door 45 = .ok (.getfield 108, 3) := by decide +kernel
theorem dX8_door_48 : decode cX8_door 48 = .ok (.bipush 6, 2) := by decide +kernel
theorem dX8_door_50 : decode cX8_door 50 = .ok (.if_icmp .ne 6, 3) := by decide +kernel
theorem dX8_door_53 : decode cX8_door 53 = .ok (.bipush (-4), 2) := by decide +kernel
theorem dX8_door_55 : decode cX8_door 55 = .ok (.ireturn, 1) := by decide +kernel
theorem dX8_door_56 : decode cX8_door 56 = .ok (.aload_n 0, 1) := by decide +kernel
theorem dX8_door_57 : decode cX8_door 57 = .ok (.getfield 41, 3) := by decide +kernel
theorem dX8_door_60 : decode cX8_door 60 = .ok (.aload_n 0, 1) := by decide +kernel
theorem dX8_door_61 : decode cX8_door 61 = .ok (.getfield 108, 3) := by decide +kernel
theorem dX8_door_64 : decode cX8_door 64 = .ok (.iload_n 1, 1) := by decide +kernel
theorem dX8_door_65 : decode cX8_door 65 = .ok (.iastore, 1) := by decide +kernel
theorem dX8_door_66 : decode cX8_door 66 = .ok (.aload_n 0, 1) := by decide +kernel
theorem dX8_door_67 : decode cX8_door 67 = .ok (.getfield 44, 3) := by decide +kernel
theorem dX8_door_70 : decode cX8_door 70 = .ok (.aload_n 0, 1) := by decide +kernel
theorem dX8_door_71 : decode cX8_door 71 = .ok (.getfield 108, 3) := by decide +kernel
theorem dX8_door_74 : decode cX8_door 74 = .ok (.bipush 10, 2) := by decide +kernel
theorem dX8_door_76 : decode cX8_door 76 = .ok (.iastore, 1) := by decide +kernel
theorem dX8_door_77 : decode cX8_door 77 = .ok (.aload_n 0, 1) := by decide +kernel
theorem dX8_door_78 : decode cX8_door 78 = .ok (.getfield 47, 3) := by decide +kernel
theorem dX8_door_81 : decode cX8_door 81 = .ok (.aload_n 0, 1) := by decide +kernel
theorem dX8_door_82 : decode cX8_door 82 = .ok (.getfield 108, 3) := by decide +kernel
theorem dX8_door_85 : decode cX8_door 85 = .ok (.iconst 0, 1) := by decide +kernel
theorem dX8_door_86 : decode cX8_door 86 = .ok (.iastore, 1) := by decide +kernel
theorem dX8_door_87 : decode cX8_door 87 = .ok (.iconst 0, 1) := by decide +kernel
theorem dX8_door_88 : decode cX8_door 88 = .ok (.istore_n 2, 1) := by decide +kernel
theorem dX8_door_89 : decode cX8_door 89 = .ok (.iload_n 2, 1) := by decide +kernel
theorem dX8_door_90 : decode cX8_door 90 = .ok (.bipush 8, 2) := by decide +kernel
theorem dX8_door_92 : decode cX8_door 92 = .ok (.if_icmp .ge 24, 3) := by decide +kernel
theorem dX8_door_95 : decode cX8_door 95 = .ok (.aload_n 0, 1) := by decide +kernel
theorem dX8_door_96 : decode cX8_door 96 = .ok (.getfield 50, 3) := by decide +kernel
theorem dX8_door_99 : decode cX8_door 99 = .ok (.bipush 8, 2) := by decide +kernel
theorem dX8_door_101 : decode cX8_door 101 = .ok (.aload_n 0, 1) := by decide +kernel
theorem dX8_door_102 : decode cX8_door 102 = .ok (.getfield 108, 3) := by decide +kernel
theorem dX8_door_105 : decode cX8_door 105 = .ok (.imul, 1) := by decide +kernel
theorem dX8_door_106 : decode cX8_door 106 = .ok (.iload_n 2, 1) := by decide +kernel
theorem dX8_door_107 : decode cX8_door 107 = .ok (.iadd, 1) := by decide +kernel
theorem dX8_door_108 : decode cX8_door 108 = .ok (.iconst 0, 1) := by decide +kernel
theorem dX8_door_109 : decode cX8_door 109 = .ok (.bastore, 1) := by decide +kernel
theorem dX8_door_110 : decode cX8_door 110 = .ok (.iinc 2 1, 3) := by decide +kernel
theorem dX8_door_113 : decode cX8_door 113 = .ok (.goto (-24), 3) := by decide +kernel
theorem dX8_door_116 : decode cX8_door 116 = .ok (.aload_n 0, 1) := by decide +kernel
theorem dX8_door_117 : decode cX8_door 117 = .ok (.dup, 1) := by decide +kernel
theorem dX8_door_118 : decode cX8_door 118 = .ok (.getfield 108, 3) := by decide +kernel
theorem dX8_door_121 : decode cX8_door 121 = .ok (.iconst 1, 1) := by decide +kernel
theorem dX8_door_122 : decode cX8_door 122 = .ok (.iadd, 1) := by decide +kernel
theorem dX8_door_123 : decode cX8_door 123 = .ok (.putfield 108, 3) := by decide +kernel
theorem dX8_door_126 : decode cX8_door 126 = .ok (.aload_n 0, 1) := by decide +kernel
theorem dX8_door_127 : decode cX8_door 127 = .ok (.iconst 0, 1) := by decide +kernel
theorem dX8_door_128 : decode cX8_door 128 = .ok (.putfield 120, 3) := by decide +kernel
theorem dX8_door_131 : decode cX8_door 131 = .ok (.aload_n 0, 1) := by decide +kernel
theorem dX8_door_132 : decode cX8_door 132 = .ok (.getfield 108, 3) := by decide +kernel
theorem dX8_door_135 : decode cX8_door 135 = .ok (.iconst 1, 1) := by decide +kernel
theorem dX8_door_136 : decode cX8_door 136 = .ok (.isub, 1) := by decide +kernel
theorem dX8_door_137 : decode cX8_door 137 = .ok (.ireturn, 1) := by decide +kernel
theorem dX8_tank_0 : decode cX8_tank 0 = .ok (.aload_n 0, 1) := by decide +kernel
theorem dX8_tank_1 : decode cX8_tank 1 = .ok (.iload_n 1, 1) := by decide +kernel
theorem dX8_tank_2 : decode cX8_tank 2 = .ok (.invokevirtual 123, 3) := by decide +kernel
theorem dX8_tank_5 : decode cX8_tank 5 = .ok (.ifCond .eq 10, 3) := by decide +kernel
theorem dX8_tank_8 : decode cX8_tank 8 = .ok (.iload_n 2, 1) := by decide +kernel
theorem dX8_tank_9 : decode cX8_tank 9 = .ok (.invokestatic 127, 3) := by decide +kernel
theorem dX8_tank_12 : decode cX8_tank 12 = .ok (.ifCond .ne 5, 3) := by decide +kernel
theorem dX8_tank_15 : decode cX8_tank 15 = .ok (.iconst (-1), 1) := by decide +kernel
theorem dX8_tank_16 : decode cX8_tank 16 = .ok (.ireturn, 1) := by decide +kernel
theorem dX8_tank_17 : decode cX8_tank 17 = .ok (.iload_n 3, 1) := by decide +kernel
theorem dX8_tank_18 : decode cX8_tank 18 = .ok (.ifCond .lt 28, 3) := by decide +kernel
theorem dX8_tank_21 : decode cX8_tank 21 = .ok (.iload 4, 2) := by decide +kernel
theorem dX8_tank_23 : decode cX8_tank 23 = .ok (.iload_n 3, 1) := by decide +kernel
theorem dX8_tank_24 : decode cX8_tank 24 = .ok (.if_icmp .lt 22, 3) := by decide +kernel
theorem dX8_tank_27 : decode cX8_tank 27 = .ok (.iload 4, 2) := by decide +kernel
theorem dX8_tank_29 : decode cX8_tank 29 = .ok (.sipush 10000, 3) := by decide +kernel
theorem dX8_tank_32 : decode cX8_tank 32 = .ok (.if_icmp .gt 14, 3) := by decide +kernel
theorem dX8_tank_35 : decode cX8_tank 35 = .ok (.iload 5, 2) := by decide +kernel
theorem dX8_tank_37 : decode cX8_tank 37 = .ok (.iload_n 3, 1) := by decide +kernel
theorem dX8_tank_38 : decode cX8_tank 38 = .ok (.iload 4, 2) := by decide +kernel
theorem dX8_tank_40 : decode cX8_tank 40 = .ok (.invokestatic 104, 3) := by decide +kernel
theorem dX8_tank_43 : decode cX8_tank 43 = .ok (.ifCond .ne 6, 3) := by decide +kernel
theorem dX8_tank_46 : decode cX8_tank 46 = .ok (.bipush (-2), 2) := by decide +kernel
theorem dX8_tank_48 : decode cX8_tank 48 = .ok (.ireturn, 1) := by decide +kernel
theorem dX8_tank_49 : decode cX8_tank 49 = .ok (.bipush 8, 2) := by decide +kernel
theorem dX8_tank_51 : decode cX8_tank 51 = .ok (.iload_n 1, 1) := by decide +kernel
theorem dX8_tank_52 : decode cX8_tank 52 = .ok (.imul, 1) := by decide +kernel
theorem dX8_tank_53 : decode cX8_tank 53 = .ok (.iload_n 2, 1) := by decide +kernel
theorem dX8_tank_54 : decode cX8_tank 54 = .ok (.iadd, 1) := by decide +kernel
theorem dX8_tank_55 : decode cX8_tank 55 = .ok (.istore 6, 2) := by decide +kernel
theorem dX8_tank_57 : decode cX8_tank 57 = .ok (.aload_n 0, 1) := by decide +kernel
theorem dX8_tank_58 : decode cX8_tank 58 = .ok (.getfield 50, 3) := by decide +kernel
theorem dX8_tank_61 : decode cX8_tank 61 = .ok (.iload 6, 2) := by decide +kernel
theorem dX8_tank_63 : decode cX8_tank 63 = .ok (.baload, 1) := by decide +kernel
theorem dX8_tank_64 : decode cX8_tank 64 = .ok (.ifCond .eq 6, 3) := by decide +kernel
theorem dX8_tank_67 : decode cX8_tank 67 = .ok (.bipush (-3), 2) := by decide +kernel
theorem dX8_tank_69 : decode cX8_tank 69 = .ok (.ireturn, 1) := by decide +kernel
theorem dX8_tank_70 : decode cX8_tank 70 = .ok (.aload_n 0, 1) := by decide +kernel
theorem dX8_tank_71 : decode cX8_tank 71 = .ok (.getfield 50, 3) := by decide +kernel
theorem dX8_tank_74 : decode cX8_tank 74 = .ok (.iload 6, 2) := by decide +kernel
theorem dX8_tank_76 : decode cX8_tank 76 = .ok (.iconst 1, 1) := by decide +kernel
theorem dX8_tank_77 : decode cX8_tank 77 = .ok (.bastore, 1) := by decide +kernel
theorem dX8_tank_78 : decode cX8_tank 78 = .ok (.aload_n 0, 1) := by decide +kernel
theorem dX8_tank_79 : decode cX8_tank 79 = .ok (.getfield 54, 3) := by decide +kernel
theorem dX8_tank_82 : decode cX8_tank 82 = .ok (.iload 6, 2) := by decide +kernel
theorem dX8_tank_84 : decode cX8_tank 84 = .ok (.iload_n 3, 1) := by decide +kernel
theorem dX8_tank_85 : decode cX8_tank 85 = .ok (.iastore, 1) := by decide +kernel
theorem dX8_tank_86 : decode cX8_tank 86 = .ok (.aload_n 0, 1) := by decide +kernel
theorem dX8_tank_87 : decode cX8_tank 87 = .ok (.getfield 57, 3) := by decide +kernel
theorem dX8_tank_90 : decode cX8_tank 90 = .ok (.iload 6, 2) := by decide +kernel
theorem dX8_tank_92 : decode cX8_tank 92 = .ok (.iload 4, 2) := by decide +kernel
theorem dX8_tank_94 : decode cX8_tank 94 = .ok (.iastore, 1) := by decide +kernel
theorem dX8_tank_95 : decode cX8_tank 95 = .ok (.aload_n 0, 1) := by decide +kernel
theorem dX8_tank_96 : decode cX8_tank 96 = .ok (.getfield 60, 3) := by decide +kernel
theorem dX8_tank_99 : decode cX8_tank 99 = .ok (.iload 6, 2) := by decide +kernel
theorem dX8_tank_101 : decode cX8_tank 101 = .ok (.iload 5, 2) := by decide +kernel
theorem dX8_tank_103 : decode cX8_tank 103 = .ok (.iastore, 1) := by decide +kernel
theorem dX8_tank_104 : decode cX8_tank 104 = .ok (.aload_n 0, 1) := by decide +kernel
theorem dX8_tank_105 : decode cX8_tank 105 = .ok (.getfield 63, 3) := by decide +kernel
theorem dX8_tank_108 : decode cX8_tank 108 = .ok (.iload 6, 2) := by decide +kernel
theorem dX8_tank_110 : decode cX8_tank 110 = .ok (.iconst 0, 1) := by decide +kernel
theorem dX8_tank_111 : decode cX8_tank 111 = .ok (.iastore, 1) := by decide +kernel
theorem dX8_tank_112 : decode cX8_tank 112 = .ok (.aload_n 0, 1) := by decide +kernel
theorem dX8_tank_113 : decode cX8_tank 113 = .ok (.getfield 66, 3) := by decide +kernel
theorem dX8_tank_116 : decode cX8_tank 116 = .ok (.iload 6, 2) := by decide +kernel
theorem dX8_tank_118 : decode cX8_tank 118 = .ok (.iconst 0, 1) := by decide +kernel
theorem dX8_tank_119 : decode cX8_tank 119 = .ok (.iastore, 1) := by decide +kernel
theorem dX8_tank_120 : decode cX8_tank 120 = .ok (.aload_n 0, 1) := by decide +kernel
theorem dX8_tank_121 : decode cX8_tank 121 = .ok (.iconst 0, 1) := by decide +kernel
theorem dX8_tank_122 : decode cX8_tank 122 = .ok (.putfield 120, 3) := by decide +kernel
theorem dX8_tank_125 : decode cX8_tank 125 = .ok (.iconst 0, 1) := by decide +kernel
theorem dX8_tank_126 : decode cX8_tank 126 = .ok (.ireturn, 1) := by decide +kernel
theorem dX8_follow_0 : decode cX8_follow 0 = .ok (.iload_n 1, 1) := by decide +kernel
theorem dX8_follow_1 : decode cX8_follow 1 = .ok (.invokestatic 127, 3) := by decide +kernel
theorem dX8_follow_4 : decode cX8_follow 4 = .ok (.ifCond .eq 10, 3) := by decide +kernel
theorem dX8_follow_7 : decode cX8_follow 7 = .ok (.iload_n 2, 1) := by decide +kernel
theorem dX8_follow_8 : decode cX8_follow 8 = .ok (.invokestatic 127, 3) := by decide +kernel
theorem dX8_follow_11 : decode cX8_follow 11 = .ok (.ifCond .ne 5, 3) := by decide +kernel
theorem dX8_follow_14 : decode cX8_follow 14 = .ok (.iconst (-1), 1) := by decide +kernel
theorem dX8_follow_15 : decode cX8_follow 15 = .ok (.ireturn, 1) := by decide +kernel
theorem dX8_follow_16 : decode cX8_follow 16 = .ok (.iload_n 3, 1) := by decide +kernel
theorem dX8_follow_17 : decode cX8_follow 17 = .ok (.iconst 0, 1) := by decide +kernel
theorem dX8_follow_18 : decode cX8_follow 18 = .ok (.iconst 1, 1) := by decide +kernel
theorem dX8_follow_19 : decode cX8_follow 19 = .ok (.invokestatic 104, 3) := by decide +kernel
theorem dX8_follow_22 : decode cX8_follow 22 = .ok (.ifCond .eq 15, 3) := by decide +kernel
theorem dX8_follow_25 : decode cX8_follow 25 = .ok (.iload 4, 2) := by decide +kernel
theorem dX8_follow_27 : decode cX8_follow 27 = .ok (.iconst 0, 1) := by decide +kernel
theorem dX8_follow_28 : decode cX8_follow 28 = .ok (.sipush 200, 3) := by decide +kernel
theorem dX8_follow_31 : decode cX8_follow 31 = .ok (.invokestatic 104, 3) := by decide +kernel
theorem dX8_follow_34 : decode cX8_follow 34 = .ok (.ifCond .ne 6, 3) := by decide +kernel
theorem dX8_follow_37 : decode cX8_follow 37 = .ok (.bipush (-2), 2) := by decide +kernel
theorem dX8_follow_39 : decode cX8_follow 39 = .ok (.ireturn, 1) := by decide +kernel
theorem dX8_follow_40 : decode cX8_follow 40 = .ok (.iload_n 3, 1) := by decide +kernel
theorem dX8_follow_41 : decode cX8_follow 41 = .ok (.ifCond .ne 11, 3) := by decide +kernel
theorem dX8_follow_44 : decode cX8_follow 44 = .ok (.iload_n 1, 1) := by decide +kernel
theorem dX8_follow_45 : decode cX8_follow 45 = .ok (.iload_n 2, 1) := by decide +kernel
theorem dX8_follow_46 : decode cX8_follow 46 = .ok (.if_icmp .ne 6, 3) := by decide +kernel
theorem dX8_follow_49 : decode cX8_follow 49 = .ok (.bipush (-3), 2) := by decide +kernel
theorem dX8_follow_51 : decode cX8_follow 51 = .ok (.ireturn, 1) := by decide +kernel
theorem dX8_follow_52 : decode cX8_follow 52 = .ok (.aload_n 0, 1) := by decide +kernel
theorem dX8_follow_53 : decode cX8_follow 53 = .ok (.getfield 69, 3) := by decide +kernel
theorem dX8_follow_56 : decode cX8_follow 56 = .ok (.bipush 8, 2) := by decide +kernel
theorem dX8_follow_58 : decode cX8_follow 58 = .ok (.iload_n 1, 1) := by decide +kernel
theorem dX8_follow_59 : decode cX8_follow 59 = .ok (.imul, 1) := by decide +kernel
theorem dX8_follow_60 : decode cX8_follow 60 = .ok (.iload_n 2, 1) := by decide +kernel
theorem dX8_follow_61 : decode cX8_follow 61 = .ok (.iadd, 1) := by decide +kernel
theorem dX8_follow_62 : decode cX8_follow 62 = .ok (.iload_n 3, 1) := by decide +kernel
theorem dX8_follow_63 : decode cX8_follow 63 = .ok (.ifCond .ne 7, 3) := by decide +kernel
theorem dX8_follow_66 : decode cX8_follow 66 = .ok (.iconst 1, 1) := by decide +kernel
theorem dX8_follow_67 : decode cX8_follow 67 = .ok (.goto 4, 3) := by decide +kernel
theorem dX8_follow_70 : decode cX8_follow 70 = .ok (.iconst 0, 1) := by decide +kernel
theorem dX8_follow_71 : decode cX8_follow 71 = .ok (.bastore, 1) := by decide +kernel
theorem dX8_follow_72 : decode cX8_follow 72 = .ok (.aload_n 0, 1) := by decide +kernel
theorem dX8_follow_73 : decode cX8_follow 73 = .ok (.getfield 72, 3) := by decide +kernel
theorem dX8_follow_76 : decode cX8_follow 76 = .ok (.bipush 8, 2) := by decide +kernel
theorem dX8_follow_78 : decode cX8_follow 78 = .ok (.iload_n 1, 1) := by decide +kernel
theorem dX8_follow_79 : decode cX8_follow 79 = .ok (.imul, 1) := by decide +kernel
theorem dX8_follow_80 : decode cX8_follow 80 = .ok (.iload_n 2, 1) := by decide +kernel
theorem dX8_follow_81 : decode cX8_follow 81 = .ok (.iadd, 1) := by decide +kernel
theorem dX8_follow_82 : decode cX8_follow 82 = .ok (.iload 4, 2) := by decide +kernel
theorem dX8_follow_84 : decode cX8_follow 84 = .ok (.iastore, 1) := by decide +kernel
theorem dX8_follow_85 : decode cX8_follow 85 = .ok (.aload_n 0, 1) := by decide +kernel
theorem dX8_follow_86 : decode cX8_follow 86 = .ok (.iconst 0, 1) := by decide +kernel
theorem dX8_follow_87 : decode cX8_follow 87 = .ok (.putfield 120, 3) := by decide +kernel
theorem dX8_follow_90 : decode cX8_follow 90 = .ok (.iconst 0, 1) := by decide +kernel
theorem dX8_follow_91 : decode cX8_follow 91 = .ok (.ireturn, 1) := by decide +kernel
theorem dX8_grace_0 : decode cX8_grace 0 = .ok (.iload_n 1, 1) := by decide +kernel
theorem dX8_grace_1 : decode cX8_grace 1 = .ok (.invokestatic 127, 3) := by decide +kernel
theorem dX8_grace_4 : decode cX8_grace 4 = .ok (.ifCond .ne 5, 3) := by decide +kernel
theorem dX8_grace_7 : decode cX8_grace 7 = .ok (.iconst (-1), 1) := by decide +kernel
theorem dX8_grace_8 : decode cX8_grace 8 = .ok (.ireturn, 1) := by decide +kernel
theorem dX8_grace_9 : decode cX8_grace 9 = .ok (.iload_n 2, 1) := by decide +kernel
theorem dX8_grace_10 : decode cX8_grace 10 = .ok (.iconst 0, 1) := by decide +kernel
theorem dX8_grace_11 : decode cX8_grace 11 = .ok (.bipush 100, 2) := by decide +kernel
theorem dX8_grace_13 : decode cX8_grace 13 = .ok (.invokestatic 104, 3) := by decide +kernel
theorem dX8_grace_16 : decode cX8_grace 16 = .ok (.ifCond .ne 6, 3) := by decide +kernel
theorem dX8_grace_19 : decode cX8_grace 19 = .ok (.bipush (-2), 2) := by decide +kernel
theorem dX8_grace_21 : decode cX8_grace 21 = .ok (.ireturn, 1) := by decide +kernel
theorem dX8_grace_22 : decode cX8_grace 22 = .ok (.aload_n 0, 1) := by decide +kernel
theorem dX8_grace_23 : decode cX8_grace 23 = .ok (.getfield 75, 3) := by decide +kernel
theorem dX8_grace_26 : decode cX8_grace 26 = .ok (.iload_n 1, 1) := by decide +kernel
theorem dX8_grace_27 : decode cX8_grace 27 = .ok (.iaload, 1) := by decide +kernel
theorem dX8_grace_28 : decode cX8_grace 28 = .ok (.istore_n 3, 1) := by decide +kernel
theorem dX8_grace_29 : decode cX8_grace 29 = .ok (.aload_n 0, 1) := by decide +kernel
theorem dX8_grace_30 : decode cX8_grace 30 = .ok (.getfield 75, 3) := by decide +kernel
theorem dX8_grace_33 : decode cX8_grace 33 = .ok (.iload_n 1, 1) := by decide +kernel
theorem dX8_grace_34 : decode cX8_grace 34 = .ok (.iload_n 2, 1) := by decide +kernel
theorem dX8_grace_35 : decode cX8_grace 35 = .ok (.iastore, 1) := by decide +kernel
theorem dX8_grace_36 : decode cX8_grace 36 = .ok (.aload_n 0, 1) := by decide +kernel
theorem dX8_grace_37 : decode cX8_grace 37 = .ok (.iconst 0, 1) := by decide +kernel
theorem dX8_grace_38 : decode cX8_grace 38 = .ok (.putfield 120, 3) := by decide +kernel
theorem dX8_grace_41 : decode cX8_grace 41 = .ok (.iload_n 3, 1) := by decide +kernel
theorem dX8_grace_42 : decode cX8_grace 42 = .ok (.ireturn, 1) := by decide +kernel
theorem dX8_rate_0 : decode cX8_rate 0 = .ok (.aload_n 0, 1) := by decide +kernel
theorem dX8_rate_1 : decode cX8_rate 1 = .ok (.iload_n 1, 1) := by decide +kernel
theorem dX8_rate_2 : decode cX8_rate 2 = .ok (.invokevirtual 123, 3) := by decide +kernel
theorem dX8_rate_5 : decode cX8_rate 5 = .ok (.ifCond .ne 5, 3) := by decide +kernel
theorem dX8_rate_8 : decode cX8_rate 8 = .ok (.iconst (-1), 1) := by decide +kernel
theorem dX8_rate_9 : decode cX8_rate 9 = .ok (.ireturn, 1) := by decide +kernel
theorem dX8_rate_10 : decode cX8_rate 10 = .ok (.iload_n 2, 1) := by decide +kernel
theorem dX8_rate_11 : decode cX8_rate 11 = .ok (.iconst 1, 1) := by decide +kernel
theorem dX8_rate_12 : decode cX8_rate 12 = .ok (.bipush 60, 2) := by decide +kernel
theorem dX8_rate_14 : decode cX8_rate 14 = .ok (.invokestatic 104, 3) := by decide +kernel
theorem dX8_rate_17 : decode cX8_rate 17 = .ok (.ifCond .ne 6, 3) := by decide +kernel
theorem dX8_rate_20 : decode cX8_rate 20 = .ok (.bipush (-2), 2) := by decide +kernel
theorem dX8_rate_22 : decode cX8_rate 22 = .ok (.ireturn, 1) := by decide +kernel
theorem dX8_rate_23 : decode cX8_rate 23 = .ok (.aload_n 0, 1) := by decide +kernel
theorem dX8_rate_24 : decode cX8_rate 24 = .ok (.getfield 44, 3) := by decide +kernel
theorem dX8_rate_27 : decode cX8_rate 27 = .ok (.iload_n 1, 1) := by decide +kernel
theorem dX8_rate_28 : decode cX8_rate 28 = .ok (.iaload, 1) := by decide +kernel
theorem dX8_rate_29 : decode cX8_rate 29 = .ok (.istore_n 3, 1) := by decide +kernel
theorem dX8_rate_30 : decode cX8_rate 30 = .ok (.aload_n 0, 1) := by decide +kernel
theorem dX8_rate_31 : decode cX8_rate 31 = .ok (.getfield 44, 3) := by decide +kernel
theorem dX8_rate_34 : decode cX8_rate 34 = .ok (.iload_n 1, 1) := by decide +kernel
theorem dX8_rate_35 : decode cX8_rate 35 = .ok (.iload_n 2, 1) := by decide +kernel
theorem dX8_rate_36 : decode cX8_rate 36 = .ok (.iastore, 1) := by decide +kernel
theorem dX8_rate_37 : decode cX8_rate 37 = .ok (.aload_n 0, 1) := by decide +kernel
theorem dX8_rate_38 : decode cX8_rate 38 = .ok (.iconst 0, 1) := by decide +kernel
theorem dX8_rate_39 : decode cX8_rate 39 = .ok (.putfield 120, 3) := by decide +kernel
theorem dX8_rate_42 : decode cX8_rate 42 = .ok (.iload_n 3, 1) := by decide +kernel
theorem dX8_rate_43 : decode cX8_rate 43 = .ok (.ireturn, 1) := by decide +kernel
theorem dX8_price_0 : decode cX8_price 0 = .ok (.iload_n 1, 1) := by decide +kernel
theorem dX8_price_1 : decode cX8_price 1 = .ok (.iconst 0, 1) := by decide +kernel
theorem dX8_price_2 : decode cX8_price 2 = .ok (.bipush 23, 2) := by decide +kernel
theorem dX8_price_4 : decode cX8_price 4 = .ok (.invokestatic 104, 3) := by decide +kernel
theorem dX8_price_7 : decode cX8_price 7 = .ok (.ifCond .ne 5, 3) := by decide +kernel
theorem dX8_price_10 : decode cX8_price 10 = .ok (.iconst (-1), 1) := by decide +kernel
theorem dX8_price_11 : decode cX8_price 11 = .ok (.ireturn, 1) := by decide +kernel
theorem dX8_price_12 : decode cX8_price 12 = .ok (.iload_n 2, 1) := by decide +kernel
theorem dX8_price_13 : decode cX8_price 13 = .ok (.iconst 0, 1) := by decide +kernel
theorem dX8_price_14 : decode cX8_price 14 = .ok (.bipush 100, 2) := by decide +kernel
theorem dX8_price_16 : decode cX8_price 16 = .ok (.invokestatic 104, 3) := by decide +kernel
theorem dX8_price_19 : decode cX8_price 19 = .ok (.ifCond .ne 6, 3) := by decide +kernel
theorem dX8_price_22 : decode cX8_price 22 = .ok (.bipush (-2), 2) := by decide +kernel
theorem dX8_price_24 : decode cX8_price 24 = .ok (.ireturn, 1) := by decide +kernel
theorem dX8_price_25 : decode cX8_price 25 = .ok (.aload_n 0, 1) := by decide +kernel
theorem dX8_price_26 : decode cX8_price 26 = .ok (.getfield 78, 3) := by decide +kernel
theorem dX8_price_29 : decode cX8_price 29 = .ok (.iload_n 1, 1) := by decide +kernel
theorem dX8_price_30 : decode cX8_price 30 = .ok (.iaload, 1) := by decide +kernel
theorem dX8_price_31 : decode cX8_price 31 = .ok (.istore_n 3, 1) := by decide +kernel
theorem dX8_price_32 : decode cX8_price 32 = .ok (.aload_n 0, 1) := by decide +kernel
theorem dX8_price_33 : decode cX8_price 33 = .ok (.getfield 78, 3) := by decide +kernel
theorem dX8_price_36 : decode cX8_price 36 = .ok (.iload_n 1, 1) := by decide +kernel
theorem dX8_price_37 : decode cX8_price 37 = .ok (.iload_n 2, 1) := by decide +kernel
theorem dX8_price_38 : decode cX8_price 38 = .ok (.iastore, 1) := by decide +kernel
theorem dX8_price_39 : decode cX8_price 39 = .ok (.aload_n 0, 1) := by decide +kernel
theorem dX8_price_40 : decode cX8_price 40 = .ok (.iconst 0, 1) := by decide +kernel
theorem dX8_price_41 : decode cX8_price 41 = .ok (.putfield 120, 3) := by decide +kernel
theorem dX8_price_44 : decode cX8_price 44 = .ok (.iload_n 3, 1) := by decide +kernel
theorem dX8_price_45 : decode cX8_price 45 = .ok (.ireturn, 1) := by decide +kernel
theorem dX8_wish_0 : decode cX8_wish 0 = .ok (.aload_n 0, 1) := by decide +kernel
theorem dX8_wish_1 : decode cX8_wish 1 = .ok (.iload_n 1, 1) := by decide +kernel
theorem dX8_wish_2 : decode cX8_wish 2 = .ok (.iload_n 2, 1) := by decide +kernel
theorem dX8_wish_3 : decode cX8_wish 3 = .ok (.invokevirtual 130, 3) := by decide +kernel
theorem dX8_wish_6 : decode cX8_wish 6 = .ok (.ifCond .ne 5, 3) := by decide +kernel
theorem dX8_wish_9 : decode cX8_wish 9 = .ok (.iconst (-1), 1) := by decide +kernel
theorem dX8_wish_10 : decode cX8_wish 10 = .ok (.ireturn, 1) := by decide +kernel
theorem dX8_wish_11 : decode cX8_wish 11 = .ok (.iload_n 3, 1) := by decide +kernel
theorem dX8_wish_12 : decode cX8_wish 12 = .ok (.iconst 1, 1) := by decide +kernel
theorem dX8_wish_13 : decode cX8_wish 13 = .ok (.sipush 1000, 3) := by decide +kernel
theorem dX8_wish_16 : decode cX8_wish 16 = .ok (.invokestatic 104, 3) := by decide +kernel
theorem dX8_wish_19 : decode cX8_wish 19 = .ok (.ifCond .eq 14, 3) := by decide +kernel
theorem dX8_wish_22 : decode cX8_wish 22 = .ok (.iload 4, 2) := by decide +kernel
theorem dX8_wish_24 : decode cX8_wish 24 = .ok (.iconst 0, 1) := by decide +kernel
theorem dX8_wish_25 : decode cX8_wish 25 = .ok (.ldc 134, 2) := by decide +kernel
theorem dX8_wish_27 : decode cX8_wish 27 = .ok (.invokestatic 104, 3) := by decide +kernel
theorem dX8_wish_30 : decode cX8_wish 30 = .ok (.ifCond .ne 6, 3) := by decide +kernel
theorem dX8_wish_33 : decode cX8_wish 33 = .ok (.bipush (-2), 2) := by decide +kernel
theorem dX8_wish_35 : decode cX8_wish 35 = .ok (.ireturn, 1) := by decide +kernel
theorem dX8_wish_36 : decode cX8_wish 36 = .ok (.aload_n 0, 1) := by decide +kernel
theorem dX8_wish_37 : decode cX8_wish 37 = .ok (.getfield 111, 3) := by decide +kernel
theorem dX8_wish_40 : decode cX8_wish 40 = .ok (.bipush 20, 2) := by decide +kernel
theorem dX8_wish_42 : decode cX8_wish 42 = .ok (.if_icmp .ne 6, 3) := by decide +kernel
theorem dX8_wish_45 : decode cX8_wish 45 = .ok (.bipush (-4), 2) := by decide +kernel
theorem dX8_wish_47 : decode cX8_wish 47 = .ok (.ireturn, 1) := by decide +kernel
theorem dX8_wish_48 : decode cX8_wish 48 = .ok (.aload_n 0, 1) := by decide +kernel
theorem dX8_wish_49 : decode cX8_wish 49 = .ok (.getfield 81, 3) := by decide +kernel
theorem dX8_wish_52 : decode cX8_wish 52 = .ok (.aload_n 0, 1) := by decide +kernel
theorem dX8_wish_53 : decode cX8_wish 53 = .ok (.getfield 111, 3) := by decide +kernel
theorem dX8_wish_56 : decode cX8_wish 56 = .ok (.bipush 8, 2) := by decide +kernel
theorem dX8_wish_58 : decode cX8_wish 58 = .ok (.iload_n 1, 1) := by decide +kernel
theorem dX8_wish_59 : decode cX8_wish 59 = .ok (.imul, 1) := by decide +kernel
theorem dX8_wish_60 : decode cX8_wish 60 = .ok (.iload_n 2, 1) := by decide +kernel
theorem dX8_wish_61 : decode cX8_wish 61 = .ok (.iadd, 1) := by decide +kernel
theorem dX8_wish_62 : decode cX8_wish 62 = .ok (.iastore, 1) := by decide +kernel
theorem dX8_wish_63 : decode cX8_wish 63 = .ok (.aload_n 0, 1) := by decide +kernel
theorem dX8_wish_64 : decode cX8_wish 64 = .ok (.getfield 84, 3) := by decide +kernel
theorem dX8_wish_67 : decode cX8_wish 67 = .ok (.aload_n 0, 1) := by decide +kernel
theorem dX8_wish_68 : decode cX8_wish 68 = .ok (.getfield 111, 3) := by decide +kernel
theorem dX8_wish_71 : decode cX8_wish 71 = .ok (.iload_n 3, 1) := by decide +kernel
theorem dX8_wish_72 : decode cX8_wish 72 = .ok (.iastore, 1) := by decide +kernel
theorem dX8_wish_73 : decode cX8_wish 73 = .ok (.aload_n 0, 1) := by decide +kernel
theorem dX8_wish_74 : decode cX8_wish 74 = .ok (.getfield 87, 3) := by decide +kernel
theorem dX8_wish_77 : decode cX8_wish 77 = .ok (.aload_n 0, 1) := by decide +kernel
theorem dX8_wish_78 : decode cX8_wish 78 = .ok (.getfield 111, 3) := by decide +kernel
theorem dX8_wish_81 : decode cX8_wish 81 = .ok (.iload 4, 2) := by decide +kernel
theorem dX8_wish_83 : decode cX8_wish 83 = .ok (.iastore, 1) := by decide +kernel
theorem dX8_wish_84 : decode cX8_wish 84 = .ok (.aload_n 0, 1) := by decide +kernel
theorem dX8_wish_85 : decode cX8_wish 85 = .ok (.getfield 90, 3) := by decide +kernel
theorem dX8_wish_88 : decode cX8_wish 88 = .ok (.aload_n 0, 1) := by decide +kernel
theorem dX8_wish_89 : decode cX8_wish 89 = .ok (.getfield 111, 3) := by decide +kernel
theorem dX8_wish_92 : decode cX8_wish 92 = .ok (.aload_n 0, 1) := by decide +kernel
theorem dX8_wish_93 : decode cX8_wish 93 = .ok (.getfield 66, 3) := by decide +kernel
theorem dX8_wish_96 : decode cX8_wish 96 = .ok (.bipush 8, 2) := by decide +kernel
theorem dX8_wish_98 : decode cX8_wish 98 = .ok (.iload_n 1, 1) := by decide +kernel
theorem dX8_wish_99 : decode cX8_wish 99 = .ok (.imul, 1) := by decide +kernel
theorem dX8_wish_100 : decode cX8_wish 100 = .ok (.iload_n 2, 1) := by decide +kernel
theorem dX8_wish_101 : decode cX8_wish 101 = .ok (.iadd, 1) := by decide +kernel
theorem dX8_wish_102 : decode cX8_wish 102 = .ok (.iaload, 1) := by decide +kernel
theorem dX8_wish_103 : decode cX8_wish 103 = .ok (.iastore, 1) := by decide +kernel
theorem dX8_wish_104 : decode cX8_wish 104 = .ok (.aload_n 0, 1) := by decide +kernel
theorem dX8_wish_105 : decode cX8_wish 105 = .ok (.getfield 93, 3) := by decide +kernel
theorem dX8_wish_108 : decode cX8_wish 108 = .ok (.aload_n 0, 1) := by decide +kernel
theorem dX8_wish_109 : decode cX8_wish 109 = .ok (.getfield 111, 3) := by decide +kernel
theorem dX8_wish_112 : decode cX8_wish 112 = .ok (.iconst (-1), 1) := by decide +kernel
theorem dX8_wish_113 : decode cX8_wish 113 = .ok (.iastore, 1) := by decide +kernel
theorem dX8_wish_114 : decode cX8_wish 114 = .ok (.aload_n 0, 1) := by decide +kernel
theorem dX8_wish_115 : decode cX8_wish 115 = .ok (.dup, 1) := by decide +kernel
theorem dX8_wish_116 : decode cX8_wish 116 = .ok (.getfield 111, 3) := by decide +kernel
theorem dX8_wish_119 : decode cX8_wish 119 = .ok (.iconst 1, 1) := by decide +kernel
theorem dX8_wish_120 : decode cX8_wish 120 = .ok (.iadd, 1) := by decide +kernel
theorem dX8_wish_121 : decode cX8_wish 121 = .ok (.putfield 111, 3) := by decide +kernel
theorem dX8_wish_124 : decode cX8_wish 124 = .ok (.aload_n 0, 1) := by decide +kernel
theorem dX8_wish_125 : decode cX8_wish 125 = .ok (.iconst 0, 1) := by decide +kernel
theorem dX8_wish_126 : decode cX8_wish 126 = .ok (.putfield 120, 3) := by decide +kernel
theorem dX8_wish_129 : decode cX8_wish 129 = .ok (.aload_n 0, 1) := by decide +kernel
theorem dX8_wish_130 : decode cX8_wish 130 = .ok (.getfield 111, 3) := by decide +kernel
theorem dX8_wish_133 : decode cX8_wish 133 = .ok (.iconst 1, 1) := by decide +kernel
theorem dX8_wish_134 : decode cX8_wish 134 = .ok (.isub, 1) := by decide +kernel
theorem dX8_wish_135 : decode cX8_wish 135 = .ok (.ireturn, 1) := by decide +kernel
theorem dX8_wait_0 : decode cX8_wait 0 = .ok (.iload_n 1, 1) := by decide +kernel
theorem dX8_wait_1 : decode cX8_wait 1 = .ok (.iconst 0, 1) := by decide +kernel
theorem dX8_wait_2 : decode cX8_wait 2 = .ok (.sipush 1000, 3) := by decide +kernel
theorem dX8_wait_5 : decode cX8_wait 5 = .ok (.invokestatic 104, 3) := by decide +kernel
theorem dX8_wait_8 : decode cX8_wait 8 = .ok (.ifCond .ne 6, 3) := by decide +kernel
theorem dX8_wait_11 : decode cX8_wait 11 = .ok (.bipush (-2), 2) := by decide +kernel
theorem dX8_wait_13 : decode cX8_wait 13 = .ok (.ireturn, 1) := by decide +kernel
theorem dX8_wait_14 : decode cX8_wait 14 = .ok (.aload_n 0, 1) := by decide +kernel
theorem dX8_wait_15 : decode cX8_wait 15 = .ok (.dup, 1) := by decide +kernel
theorem dX8_wait_16 : decode cX8_wait 16 = .ok (.getfield 114, 3) := by decide +kernel
theorem dX8_wait_19 : decode cX8_wait 19 = .ok (.iload_n 1, 1) := by decide +kernel
theorem dX8_wait_20 : decode cX8_wait 20 = .ok (.iadd, 1) := by decide +kernel
theorem dX8_wait_21 : decode cX8_wait 21 = .ok (.putfield 114, 3) := by decide +kernel
theorem dX8_wait_24 : decode cX8_wait 24 = .ok (.aload_n 0, 1) := by decide +kernel
theorem dX8_wait_25 : decode cX8_wait 25 = .ok (.iconst 0, 1) := by decide +kernel
theorem dX8_wait_26 : decode cX8_wait 26 = .ok (.putfield 120, 3) := by decide +kernel
theorem dX8_wait_29 : decode cX8_wait 29 = .ok (.aload_n 0, 1) := by decide +kernel
theorem dX8_wait_30 : decode cX8_wait 30 = .ok (.getfield 114, 3) := by decide +kernel
theorem dX8_wait_33 : decode cX8_wait 33 = .ok (.ireturn, 1) := by decide +kernel
theorem dX8_note_0 : decode cX8_note 0 = .ok (.aload_n 0, 1) := by decide +kernel
theorem dX8_note_1 : decode cX8_note 1 = .ok (.getfield 97, 3) := by decide +kernel
theorem dX8_note_4 : decode cX8_note 4 = .ok (.aload_n 0, 1) := by decide +kernel
theorem dX8_note_5 : decode cX8_note 5 = .ok (.getfield 135, 3) := by decide +kernel
theorem dX8_note_8 : decode cX8_note 8 = .ok (.iload_n 1, 1) := by decide +kernel
theorem dX8_note_9 : decode cX8_note 9 = .ok (.iastore, 1) := by decide +kernel
theorem dX8_note_10 : decode cX8_note 10 = .ok (.aload_n 0, 1) := by decide +kernel
theorem dX8_note_11 : decode cX8_note 11 = .ok (.dup, 1) := by decide +kernel
theorem dX8_note_12 : decode cX8_note 12 = .ok (.getfield 135, 3) := by decide +kernel
theorem dX8_note_15 : decode cX8_note 15 = .ok (.iconst 1, 1) := by decide +kernel
theorem dX8_note_16 : decode cX8_note 16 = .ok (.iadd, 1) := by decide +kernel
theorem dX8_note_17 : decode cX8_note 17 = .ok (.putfield 135, 3) := by decide +kernel
theorem dX8_note_20 : decode cX8_note 20 = .ok (.return_, 1) := by decide +kernel
theorem dX8_noted_0 : decode cX8_noted 0 = .ok (.aload_n 0, 1) := by decide +kernel
theorem dX8_noted_1 : decode cX8_noted 1 = .ok (.dup, 1) := by decide +kernel
theorem dX8_noted_2 : decode cX8_noted 2 = .ok (.getfield 135, 3) := by decide +kernel
theorem dX8_noted_5 : decode cX8_noted 5 = .ok (.iconst 1, 1) := by decide +kernel
theorem dX8_noted_6 : decode cX8_noted 6 = .ok (.iadd, 1) := by decide +kernel
theorem dX8_noted_7 : decode cX8_noted 7 = .ok (.putfield 135, 3) := by decide +kernel
theorem dX8_noted_10 : decode cX8_noted 10 = .ok (.aload_n 0, 1) := by decide +kernel
theorem dX8_noted_11 : decode cX8_noted 11 = .ok (.getfield 97, 3) := by decide +kernel
theorem dX8_noted_14 : decode cX8_noted 14 = .ok (.aload_n 0, 1) := by decide +kernel
theorem dX8_noted_15 : decode cX8_noted 15 = .ok (.getfield 135, 3) := by decide +kernel
theorem dX8_noted_18 : decode cX8_noted 18 = .ok (.iconst 1, 1) := by decide +kernel
theorem dX8_noted_19 : decode cX8_noted 19 = .ok (.isub, 1) := by decide +kernel
theorem dX8_noted_20 : decode cX8_noted 20 = .ok (.iaload, 1) := by decide +kernel
theorem dX8_noted_21 : decode cX8_noted 21 = .ok (.ireturn, 1) := by decide +kernel
theorem dX8_writeDown_0 : decode cX8_writeDown 0 = .ok (.aload_n 0, 1) := by decide +kernel
theorem dX8_writeDown_1 : decode cX8_writeDown 1 = .ok (.sipush 900, 3) := by decide +kernel
theorem dX8_writeDown_4 : decode cX8_writeDown 4 = .ok (.aload_n 0, 1) := by decide +kernel
theorem dX8_writeDown_5 : decode cX8_writeDown 5 = .ok (.getfield 120, 3) := by decide +kernel
theorem dX8_writeDown_8 : decode cX8_writeDown 8 = .ok (.imul, 1) := by decide +kernel
theorem dX8_writeDown_9 : decode cX8_writeDown 9 = .ok (.putfield 135, 3) := by decide +kernel
theorem dX8_writeDown_12 : decode cX8_writeDown 12 = .ok (.iconst 0, 1) := by decide +kernel
theorem dX8_writeDown_13 : decode cX8_writeDown 13 = .ok (.istore_n 1, 1) := by decide +kernel
theorem dX8_writeDown_14 : decode cX8_writeDown 14 = .ok (.iload_n 1, 1) := by decide +kernel
theorem dX8_writeDown_15 : decode cX8_writeDown 15 = .ok (.aload_n 0, 1) := by decide +kernel
theorem dX8_writeDown_16 : decode cX8_writeDown 16 = .ok (.getfield 13, 3) := by decide +kernel
theorem dX8_writeDown_19 : decode cX8_writeDown 19 = .ok (.if_icmp .ge 49, 3) := by decide +kernel
theorem dX8_writeDown_22 : decode cX8_writeDown 22 = .ok (.aload_n 0, 1) := by decide +kernel
theorem dX8_writeDown_23 : decode cX8_writeDown 23 = .ok (.aload_n 0, 1) := by decide +kernel
theorem dX8_writeDown_24 : decode cX8_writeDown 24 = .ok (.getfield 16, 3) := by decide +kernel
theorem dX8_writeDown_27 : decode cX8_writeDown 27 = .ok (.iload_n 1, 1) := by decide +kernel
theorem dX8_writeDown_28 : decode cX8_writeDown 28 = .ok (.iaload, 1) := by decide +kernel
theorem dX8_writeDown_29 : decode cX8_writeDown 29 = .ok (.invokevirtual 138, 3) := by decide +kernel
theorem dX8_writeDown_32 : decode cX8_writeDown 32 = .ok (.aload_n 0, 1) := by decide +kernel
theorem dX8_writeDown_33 : decode cX8_writeDown 33 = .ok (.aload_n 0, 1) := by decide +kernel
theorem dX8_writeDown_34 : decode cX8_writeDown 34 = .ok (.getfield 20, 3) := by decide +kernel
theorem dX8_writeDown_37 : decode cX8_writeDown 37 = .ok (.iload_n 1, 1) := by decide +kernel
theorem dX8_writeDown_38 : decode cX8_writeDown 38 = .ok (.iaload, 1) := by decide +kernel
theorem dX8_writeDown_39 : decode cX8_writeDown 39 = .ok (.invokevirtual 138, 3) := by decide +kernel
theorem dX8_writeDown_42 : decode cX8_writeDown 42 = .ok (.aload_n 0, 1) := by decide +kernel
theorem dX8_writeDown_43 : decode cX8_writeDown 43 = .ok (.aload_n 0, 1) := by decide +kernel
theorem dX8_writeDown_44 : decode cX8_writeDown 44 = .ok (.getfield 23, 3) := by decide +kernel
theorem dX8_writeDown_47 : decode cX8_writeDown 47 = .ok (.iload_n 1, 1) := by decide +kernel
theorem dX8_writeDown_48 : decode cX8_writeDown 48 = .ok (.iaload, 1) := by decide +kernel
theorem dX8_writeDown_49 : decode cX8_writeDown 49 = .ok (.invokevirtual 138, 3) := by decide +kernel
theorem dX8_writeDown_52 : decode cX8_writeDown 52 = .ok (.aload_n 0, 1) := by decide +kernel
theorem dX8_writeDown_53 : decode cX8_writeDown 53 = .ok (.aload_n 0, 1) := by decide +kernel
theorem dX8_writeDown_54 : decode cX8_writeDown 54 = .ok (.getfield 26, 3) := by decide +kernel
theorem dX8_writeDown_57 : decode cX8_writeDown 57 = .ok (.iload_n 1, 1) := by decide +kernel
theorem dX8_writeDown_58 : decode cX8_writeDown 58 = .ok (.iaload, 1) := by decide +kernel
theorem dX8_writeDown_59 : decode cX8_writeDown 59 = .ok (.invokevirtual 138, 3) := by decide +kernel
theorem dX8_writeDown_62 : decode cX8_writeDown 62 = .ok (.iinc 1 1, 3) := by decide +kernel
theorem dX8_writeDown_65 : decode cX8_writeDown 65 = .ok (.goto (-51), 3) := by decide +kernel
theorem dX8_writeDown_68 : decode cX8_writeDown 68 = .ok (.iconst 0, 1) := by decide +kernel
theorem dX8_writeDown_69 : decode cX8_writeDown 69 = .ok (.istore_n 1, 1) := by decide +kernel
theorem dX8_writeDown_70 : decode cX8_writeDown 70 = .ok (.iload_n 1, 1) := by decide +kernel
theorem dX8_writeDown_71 : decode cX8_writeDown 71 = .ok (.bipush 48, 2) := by decide +kernel
theorem dX8_writeDown_73 : decode cX8_writeDown 73 = .ok (.if_icmp .ge 39, 3) := by decide +kernel
theorem dX8_writeDown_76 : decode cX8_writeDown 76 = .ok (.aload_n 0, 1) := by decide +kernel
theorem dX8_writeDown_77 : decode cX8_writeDown 77 = .ok (.aload_n 0, 1) := by decide +kernel
theorem dX8_writeDown_78 : decode cX8_writeDown 78 = .ok (.getfield 60, 3) := by decide +kernel
theorem dX8_writeDown_81 : decode cX8_writeDown 81 = .ok (.iload_n 1, 1) := by decide +kernel
theorem dX8_writeDown_82 : decode cX8_writeDown 82 = .ok (.iaload, 1) := by decide +kernel
theorem dX8_writeDown_83 : decode cX8_writeDown 83 = .ok (.invokevirtual 138, 3) := by decide +kernel
theorem dX8_writeDown_86 : decode cX8_writeDown 86 = .ok (.aload_n 0, 1) := by decide +kernel
theorem dX8_writeDown_87 : decode cX8_writeDown 87 = .ok (.aload_n 0, 1) := by decide +kernel
theorem dX8_writeDown_88 : decode cX8_writeDown 88 = .ok (.getfield 63, 3) := by decide +kernel
theorem dX8_writeDown_91 : decode cX8_writeDown 91 = .ok (.iload_n 1, 1) := by decide +kernel
theorem dX8_writeDown_92 : decode cX8_writeDown 92 = .ok (.iaload, 1) := by decide +kernel
theorem dX8_writeDown_93 : decode cX8_writeDown 93 = .ok (.invokevirtual 138, 3) := by decide +kernel
theorem dX8_writeDown_96 : decode cX8_writeDown 96 = .ok (.aload_n 0, 1) := by decide +kernel
theorem dX8_writeDown_97 : decode cX8_writeDown 97 = .ok (.aload_n 0, 1) := by decide +kernel
theorem dX8_writeDown_98 : decode cX8_writeDown 98 = .ok (.getfield 66, 3) := by decide +kernel
theorem dX8_writeDown_101 : decode cX8_writeDown 101 = .ok (.iload_n 1, 1) := by decide +kernel
theorem dX8_writeDown_102 : decode cX8_writeDown 102 = .ok (.iaload, 1) := by decide +kernel
theorem dX8_writeDown_103 : decode cX8_writeDown 103 = .ok (.invokevirtual 138, 3) := by decide +kernel
theorem dX8_writeDown_106 : decode cX8_writeDown 106 = .ok (.iinc 1 1, 3) := by decide +kernel
theorem dX8_writeDown_109 : decode cX8_writeDown 109 = .ok (.goto (-39), 3) := by decide +kernel
theorem dX8_writeDown_112 : decode cX8_writeDown 112 = .ok (.iconst 0, 1) := by decide +kernel
theorem dX8_writeDown_113 : decode cX8_writeDown 113 = .ok (.istore_n 1, 1) := by decide +kernel
theorem dX8_writeDown_114 : decode cX8_writeDown 114 = .ok (.iload_n 1, 1) := by decide +kernel
theorem dX8_writeDown_115 : decode cX8_writeDown 115 = .ok (.bipush 6, 2) := by decide +kernel
theorem dX8_writeDown_117 : decode cX8_writeDown 117 = .ok (.if_icmp .ge 19, 3) := by decide +kernel
theorem dX8_writeDown_120 : decode cX8_writeDown 120 = .ok (.aload_n 0, 1) := by decide +kernel
theorem dX8_writeDown_121 : decode cX8_writeDown 121 = .ok (.aload_n 0, 1) := by decide +kernel
theorem dX8_writeDown_122 : decode cX8_writeDown 122 = .ok (.getfield 47, 3) := by decide +kernel
theorem dX8_writeDown_125 : decode cX8_writeDown 125 = .ok (.iload_n 1, 1) := by decide +kernel
theorem dX8_writeDown_126 : decode cX8_writeDown 126 = .ok (.iaload, 1) := by decide +kernel
theorem dX8_writeDown_127 : decode cX8_writeDown 127 = .ok (.invokevirtual 138, 3) := by decide +kernel
theorem dX8_writeDown_130 : decode cX8_writeDown 130 = .ok (.iinc 1 1, 3) := by decide +kernel
theorem dX8_writeDown_133 : decode cX8_writeDown 133 = .ok (.goto (-19), 3) := by decide +kernel
theorem dX8_writeDown_136 : decode cX8_writeDown 136 = .ok (.iconst 0, 1) := by decide +kernel
theorem dX8_writeDown_137 : decode cX8_writeDown 137 = .ok (.istore_n 1, 1) := by decide +kernel
theorem dX8_writeDown_138 : decode cX8_writeDown 138 = .ok (.iload_n 1, 1) := by decide +kernel
theorem dX8_writeDown_139 : decode cX8_writeDown 139 = .ok (.bipush 20, 2) := by decide +kernel
theorem dX8_writeDown_141 : decode cX8_writeDown 141 = .ok (.if_icmp .ge 19, 3) := by decide +kernel
theorem dX8_writeDown_144 : decode cX8_writeDown 144 = .ok (.aload_n 0, 1) := by decide +kernel
theorem dX8_writeDown_145 : decode cX8_writeDown 145 = .ok (.aload_n 0, 1) := by decide +kernel
theorem dX8_writeDown_146 : decode cX8_writeDown 146 = .ok (.getfield 93, 3) := by decide +kernel
theorem dX8_writeDown_149 : decode cX8_writeDown 149 = .ok (.iload_n 1, 1) := by decide +kernel
theorem dX8_writeDown_150 : decode cX8_writeDown 150 = .ok (.iaload, 1) := by decide +kernel
theorem dX8_writeDown_151 : decode cX8_writeDown 151 = .ok (.invokevirtual 138, 3) := by decide +kernel
theorem dX8_writeDown_154 : decode cX8_writeDown 154 = .ok (.iinc 1 1, 3) := by decide +kernel
theorem dX8_writeDown_157 : decode cX8_writeDown 157 = .ok (.goto (-19), 3) := by decide +kernel
theorem dX8_writeDown_160 : decode cX8_writeDown 160 = .ok (.iconst 0, 1) := by decide +kernel
theorem dX8_writeDown_161 : decode cX8_writeDown 161 = .ok (.istore_n 1, 1) := by decide +kernel
theorem dX8_writeDown_162 : decode cX8_writeDown 162 = .ok (.iload_n 1, 1) := by decide +kernel
theorem dX8_writeDown_163 : decode cX8_writeDown 163 = .ok (.sipush 200, 3) := by decide +kernel
theorem dX8_writeDown_166 : decode cX8_writeDown 166 = .ok (.if_icmp .ge 19, 3) := by decide +kernel
theorem dX8_writeDown_169 : decode cX8_writeDown 169 = .ok (.aload_n 0, 1) := by decide +kernel
theorem dX8_writeDown_170 : decode cX8_writeDown 170 = .ok (.aload_n 0, 1) := by decide +kernel
theorem dX8_writeDown_171 : decode cX8_writeDown 171 = .ok (.getfield 38, 3) := by decide +kernel
theorem dX8_writeDown_174 : decode cX8_writeDown 174 = .ok (.iload_n 1, 1) := by decide +kernel
theorem dX8_writeDown_175 : decode cX8_writeDown 175 = .ok (.iaload, 1) := by decide +kernel
theorem dX8_writeDown_176 : decode cX8_writeDown 176 = .ok (.invokevirtual 138, 3) := by decide +kernel
theorem dX8_writeDown_179 : decode cX8_writeDown 179 = .ok (.iinc 1 1, 3) := by decide +kernel
theorem dX8_writeDown_182 : decode cX8_writeDown 182 = .ok (.goto (-20), 3) := by decide +kernel
theorem dX8_writeDown_185 : decode cX8_writeDown 185 = .ok (.aload_n 0, 1) := by decide +kernel
theorem dX8_writeDown_186 : decode cX8_writeDown 186 = .ok (.aload_n 0, 1) := by decide +kernel
theorem dX8_writeDown_187 : decode cX8_writeDown 187 = .ok (.getfield 114, 3) := by decide +kernel
theorem dX8_writeDown_190 : decode cX8_writeDown 190 = .ok (.invokevirtual 138, 3) := by decide +kernel
theorem dX8_writeDown_193 : decode cX8_writeDown 193 = .ok (.aload_n 0, 1) := by decide +kernel
theorem dX8_writeDown_194 : decode cX8_writeDown 194 = .ok (.aload_n 0, 1) := by decide +kernel
theorem dX8_writeDown_195 : decode cX8_writeDown 195 = .ok (.getfield 117, 3) := by decide +kernel
theorem dX8_writeDown_198 : decode cX8_writeDown 198 = .ok (.invokevirtual 138, 3) := by decide +kernel
theorem dX8_writeDown_201 : decode cX8_writeDown 201 = .ok (.aload_n 0, 1) := by decide +kernel
theorem dX8_writeDown_202 : decode cX8_writeDown 202 = .ok (.aload_n 0, 1) := by decide +kernel
theorem dX8_writeDown_203 : decode cX8_writeDown 203 = .ok (.getfield 29, 3) := by decide +kernel
theorem dX8_writeDown_206 : decode cX8_writeDown 206 = .ok (.invokevirtual 138, 3) := by decide +kernel
theorem dX8_writeDown_209 : decode cX8_writeDown 209 = .ok (.return_, 1) := by decide +kernel
theorem dX8_bringBack_0 : decode cX8_bringBack 0 = .ok (.aload_n 0, 1) := by decide +kernel
theorem dX8_bringBack_1 : decode cX8_bringBack 1 = .ok (.sipush 900, 3) := by decide +kernel
theorem dX8_bringBack_4 : decode cX8_bringBack 4 = .ok (.aload_n 0, 1) := by decide +kernel
theorem dX8_bringBack_5 : decode cX8_bringBack 5 = .ok (.getfield 120, 3) := by decide +kernel
theorem dX8_bringBack_8 : decode cX8_bringBack 8 = .ok (.imul, 1) := by decide +kernel
theorem dX8_bringBack_9 : decode cX8_bringBack 9 = .ok (.putfield 135, 3) := by decide +kernel
theorem dX8_bringBack_12 : decode cX8_bringBack 12 = .ok (.iconst 0, 1) := by decide +kernel
theorem dX8_bringBack_13 : decode cX8_bringBack 13 = .ok (.istore_n 1, 1) := by decide +kernel
theorem dX8_bringBack_14 : decode cX8_bringBack 14 = .ok (.iload_n 1, 1) := by decide +kernel
theorem dX8_bringBack_15 : decode cX8_bringBack 15 = .ok (.aload_n 0, 1) := by decide +kernel
theorem dX8_bringBack_16 : decode cX8_bringBack 16 = .ok (.getfield 13, 3) := by decide +kernel
theorem dX8_bringBack_19 : decode cX8_bringBack 19 = .ok (.if_icmp .ge 49, 3) := by decide +kernel
theorem dX8_bringBack_22 : decode cX8_bringBack 22 = .ok (.aload_n 0, 1) := by decide +kernel
theorem dX8_bringBack_23 : decode cX8_bringBack 23 = .ok (.getfield 16, 3) := by decide +kernel
theorem dX8_bringBack_26 : decode cX8_bringBack 26 = .ok (.iload_n 1, 1) := by decide +kernel
theorem dX8_bringBack_27 : decode cX8_bringBack 27 = .ok (.aload_n 0, 1) := by decide +kernel
theorem dX8_bringBack_28 : decode cX8_bringBack 28 = .ok (.invokevirtual 142, 3) := by decide +kernel
theorem dX8_bringBack_31 : decode cX8_bringBack 31 = .ok (.iastore, 1) := by decide +kernel
theorem dX8_bringBack_32 : decode cX8_bringBack 32 = .ok (.aload_n 0, 1) := by decide +kernel
theorem dX8_bringBack_33 : decode cX8_bringBack 33 = .ok (.getfield 20, 3) := by decide +kernel
theorem dX8_bringBack_36 : decode cX8_bringBack 36 = .ok (.iload_n 1, 1) := by decide +kernel
theorem dX8_bringBack_37 : decode cX8_bringBack 37 = .ok (.aload_n 0, 1) := by decide +kernel
theorem dX8_bringBack_38 : decode cX8_bringBack 38 = .ok (.invokevirtual 142, 3) := by decide +kernel
theorem dX8_bringBack_41 : decode cX8_bringBack 41 = .ok (.iastore, 1) := by decide +kernel
theorem dX8_bringBack_42 : decode cX8_bringBack 42 = .ok (.aload_n 0, 1) := by decide +kernel
theorem dX8_bringBack_43 : decode cX8_bringBack 43 = .ok (.getfield 23, 3) := by decide +kernel
theorem dX8_bringBack_46 : decode cX8_bringBack 46 = .ok (.iload_n 1, 1) := by decide +kernel
theorem dX8_bringBack_47 : decode cX8_bringBack 47 = .ok (.aload_n 0, 1) := by decide +kernel
theorem dX8_bringBack_48 : decode cX8_bringBack 48 = .ok (.invokevirtual 142, 3) := by decide +kernel
theorem dX8_bringBack_51 : decode cX8_bringBack 51 = .ok (.iastore, 1) := by decide +kernel
theorem dX8_bringBack_52 : decode cX8_bringBack 52 = .ok (.aload_n 0, 1) := by decide +kernel
theorem dX8_bringBack_53 : decode cX8_bringBack 53 = .ok (.getfield 26, 3) := by decide +kernel
theorem dX8_bringBack_56 : decode cX8_bringBack 56 = .ok (.iload_n 1, 1) := by decide +kernel
theorem dX8_bringBack_57 : decode cX8_bringBack 57 = .ok (.aload_n 0, 1) := by decide +kernel
theorem dX8_bringBack_58 : decode cX8_bringBack 58 = .ok (.invokevirtual 142, 3) := by decide +kernel
theorem dX8_bringBack_61 : decode cX8_bringBack 61 = .ok (.iastore, 1) := by decide +kernel
theorem dX8_bringBack_62 : decode cX8_bringBack 62 = .ok (.iinc 1 1, 3) := by decide +kernel
theorem dX8_bringBack_65 : decode cX8_bringBack 65 = .ok (.goto (-51), 3) := by decide +kernel
theorem dX8_bringBack_68 : decode cX8_bringBack 68 = .ok (.iconst 0, 1) := by decide +kernel
theorem dX8_bringBack_69 : decode cX8_bringBack 69 = .ok (.istore_n 1, 1) := by decide +kernel
theorem dX8_bringBack_70 : decode cX8_bringBack 70 = .ok (.iload_n 1, 1) := by decide +kernel
theorem dX8_bringBack_71 : decode cX8_bringBack 71 = .ok (.bipush 48, 2) := by decide +kernel
theorem dX8_bringBack_73 : decode cX8_bringBack 73 = .ok (.if_icmp .ge 39, 3) := by decide +kernel
theorem dX8_bringBack_76 : decode cX8_bringBack 76 = .ok (.aload_n 0, 1) := by decide +kernel
theorem dX8_bringBack_77 : decode cX8_bringBack 77 = .ok (.getfield 60, 3) := by decide +kernel
theorem dX8_bringBack_80 : decode cX8_bringBack 80 = .ok (.iload_n 1, 1) := by decide +kernel
theorem dX8_bringBack_81 : decode cX8_bringBack 81 = .ok (.aload_n 0, 1) := by decide +kernel
theorem dX8_bringBack_82 : decode cX8_bringBack 82 = .ok (.invokevirtual 142, 3) := by decide +kernel
theorem dX8_bringBack_85 : decode cX8_bringBack 85 = .ok (.iastore, 1) := by decide +kernel
theorem dX8_bringBack_86 : decode cX8_bringBack 86 = .ok (.aload_n 0, 1) := by decide +kernel
theorem dX8_bringBack_87 : decode cX8_bringBack 87 = .ok (.getfield 63, 3) := by decide +kernel
theorem dX8_bringBack_90 : decode cX8_bringBack 90 = .ok (.iload_n 1, 1) := by decide +kernel
theorem dX8_bringBack_91 : decode cX8_bringBack 91 = .ok (.aload_n 0, 1) := by decide +kernel
theorem dX8_bringBack_92 : decode cX8_bringBack 92 = .ok (.invokevirtual 142, 3) := by decide +kernel
theorem dX8_bringBack_95 : decode cX8_bringBack 95 = .ok (.iastore, 1) := by decide +kernel
theorem dX8_bringBack_96 : decode cX8_bringBack 96 = .ok (.aload_n 0, 1) := by decide +kernel
theorem dX8_bringBack_97 : decode cX8_bringBack 97 = .ok (.getfield 66, 3) := by decide +kernel
theorem dX8_bringBack_100 : decode cX8_bringBack 100 = .ok (.iload_n 1, 1) := by decide +kernel
theorem dX8_bringBack_101 : decode cX8_bringBack 101 = .ok (.aload_n 0, 1) := by decide +kernel
theorem dX8_bringBack_102 : decode cX8_bringBack 102 = .ok (.invokevirtual 142, 3) := by decide +kernel
theorem dX8_bringBack_105 : decode cX8_bringBack 105 = .ok (.iastore, 1) := by decide +kernel
theorem dX8_bringBack_106 : decode cX8_bringBack 106 = .ok (.iinc 1 1, 3) := by decide +kernel
theorem dX8_bringBack_109 : decode cX8_bringBack 109 = .ok (.goto (-39), 3) := by decide +kernel
theorem dX8_bringBack_112 : decode cX8_bringBack 112 = .ok (.iconst 0, 1) := by decide +kernel
theorem dX8_bringBack_113 : decode cX8_bringBack 113 = .ok (.istore_n 1, 1) := by decide +kernel
theorem dX8_bringBack_114 : decode cX8_bringBack 114 = .ok (.iload_n 1, 1) := by decide +kernel
theorem dX8_bringBack_115 : decode cX8_bringBack 115 = .ok (.bipush 6, 2) := by decide +kernel
theorem dX8_bringBack_117 : decode cX8_bringBack 117 = .ok (.if_icmp .ge 19, 3) := by decide +kernel
theorem dX8_bringBack_120 : decode cX8_bringBack 120 = .ok (.aload_n 0, 1) := by decide +kernel
theorem dX8_bringBack_121 : decode cX8_bringBack 121 = .ok (.getfield 47, 3) := by decide +kernel
theorem dX8_bringBack_124 : decode cX8_bringBack 124 = .ok (.iload_n 1, 1) := by decide +kernel
theorem dX8_bringBack_125 : decode cX8_bringBack 125 = .ok (.aload_n 0, 1) := by decide +kernel
theorem dX8_bringBack_126 : decode cX8_bringBack 126 = .ok (.invokevirtual 142, 3) := by decide +kernel
theorem dX8_bringBack_129 : decode cX8_bringBack 129 = .ok (.iastore, 1) := by decide +kernel
theorem dX8_bringBack_130 : decode cX8_bringBack 130 = .ok (.iinc 1 1, 3) := by decide +kernel
theorem dX8_bringBack_133 : decode cX8_bringBack 133 = .ok (.goto (-19), 3) := by decide +kernel
theorem dX8_bringBack_136 : decode cX8_bringBack 136 = .ok (.iconst 0, 1) := by decide +kernel
theorem dX8_bringBack_137 : decode cX8_bringBack 137 = .ok (.istore_n 1, 1) := by decide +kernel
theorem dX8_bringBack_138 : decode cX8_bringBack 138 = .ok (.iload_n 1, 1) := by decide +kernel
theorem dX8_bringBack_139 : decode cX8_bringBack 139 = .ok (.bipush 20, 2) := by decide +kernel
theorem dX8_bringBack_141 : decode cX8_bringBack 141 = .ok (.if_icmp .ge 19, 3) := by decide +kernel
theorem dX8_bringBack_144 : decode cX8_bringBack 144 = .ok (.aload_n 0, 1) := by decide +kernel
theorem dX8_bringBack_145 : decode cX8_bringBack 145 = .ok (.getfield 93, 3) := by decide +kernel
theorem dX8_bringBack_148 : decode cX8_bringBack 148 = .ok (.iload_n 1, 1) := by decide +kernel
theorem dX8_bringBack_149 : decode cX8_bringBack 149 = .ok (.aload_n 0, 1) := by decide +kernel
theorem dX8_bringBack_150 : decode cX8_bringBack 150 = .ok (.invokevirtual 142, 3) := by decide +kernel
theorem dX8_bringBack_153 : decode cX8_bringBack 153 = .ok (.iastore, 1) := by decide +kernel
theorem dX8_bringBack_154 : decode cX8_bringBack 154 = .ok (.iinc 1 1, 3) := by decide +kernel
theorem dX8_bringBack_157 : decode cX8_bringBack 157 = .ok (.goto (-19), 3) := by decide +kernel
theorem dX8_bringBack_160 : decode cX8_bringBack 160 = .ok (.iconst 0, 1) := by decide +kernel
theorem dX8_bringBack_161 : decode cX8_bringBack 161 = .ok (.istore_n 1, 1) := by decide +kernel
theorem dX8_bringBack_162 : decode cX8_bringBack 162 = .ok (.iload_n 1, 1) := by decide +kernel
theorem dX8_bringBack_163 : decode cX8_bringBack 163 = .ok (.sipush 200, 3) := by decide +kernel
theorem dX8_bringBack_166 : decode cX8_bringBack 166 = .ok (.if_icmp .ge 19, 3) := by decide +kernel
theorem dX8_bringBack_169 : decode cX8_bringBack 169 = .ok (.aload_n 0, 1) := by decide +kernel
theorem dX8_bringBack_170 : decode cX8_bringBack 170 = .ok (.getfield 38, 3) := by decide +kernel
theorem dX8_bringBack_173 : decode cX8_bringBack 173 = .ok (.iload_n 1, 1) := by decide +kernel
theorem dX8_bringBack_174 : decode cX8_bringBack 174 = .ok (.aload_n 0, 1) := by decide +kernel
theorem dX8_bringBack_175 : decode cX8_bringBack 175 = .ok (.invokevirtual 142, 3) := by decide +kernel
theorem dX8_bringBack_178 : decode cX8_bringBack 178 = .ok (.iastore, 1) := by decide +kernel
theorem dX8_bringBack_179 : decode cX8_bringBack 179 = .ok (.iinc 1 1, 3) := by decide +kernel
theorem dX8_bringBack_182 : decode cX8_bringBack 182 = .ok (.goto (-20), 3) := by decide +kernel
theorem dX8_bringBack_185 : decode cX8_bringBack 185 = .ok (.aload_n 0, 1) := by decide +kernel
theorem dX8_bringBack_186 : decode cX8_bringBack 186 = .ok (.aload_n 0, 1) := by decide +kernel
theorem dX8_bringBack_187 : decode cX8_bringBack 187 = .ok (.invokevirtual 142, 3) := by decide +kernel
theorem dX8_bringBack_190 : decode cX8_bringBack 190 = .ok (.putfield 114, 3) := by decide +kernel
theorem dX8_bringBack_193 : decode cX8_bringBack 193 = .ok (.aload_n 0, 1) := by decide +kernel
theorem dX8_bringBack_194 : decode cX8_bringBack 194 = .ok (.aload_n 0, 1) := by decide +kernel
theorem dX8_bringBack_195 : decode cX8_bringBack 195 = .ok (.invokevirtual 142, 3) := by decide +kernel
theorem dX8_bringBack_198 : decode cX8_bringBack 198 = .ok (.putfield 117, 3) := by decide +kernel
theorem dX8_bringBack_201 : decode cX8_bringBack 201 = .ok (.aload_n 0, 1) := by decide +kernel
theorem dX8_bringBack_202 : decode cX8_bringBack 202 = .ok (.aload_n 0, 1) := by decide +kernel
theorem dX8_bringBack_203 : decode cX8_bringBack 203 = .ok (.invokevirtual 142, 3) := by decide +kernel
theorem dX8_bringBack_206 : decode cX8_bringBack 206 = .ok (.putfield 29, 3) := by decide +kernel
theorem dX8_bringBack_209 : decode cX8_bringBack 209 = .ok (.return_, 1) := by decide +kernel
theorem dX8_isPure_0 : decode cX8_isPure 0 = .ok (.aload_n 0, 1) := by decide +kernel
theorem dX8_isPure_1 : decode cX8_isPure 1 = .ok (.getfield 23, 3) := by decide +kernel
theorem dX8_isPure_4 : decode cX8_isPure 4 = .ok (.iload_n 1, 1) := by decide +kernel
theorem dX8_isPure_5 : decode cX8_isPure 5 = .ok (.iaload, 1) := by decide +kernel
theorem dX8_isPure_6 : decode cX8_isPure 6 = .ok (.iconst (-1), 1) := by decide +kernel
theorem dX8_isPure_7 : decode cX8_isPure 7 = .ok (.if_icmp .ne 7, 3) := by decide +kernel
theorem dX8_isPure_10 : decode cX8_isPure 10 = .ok (.iconst 1, 1) := by decide +kernel
theorem dX8_isPure_11 : decode cX8_isPure 11 = .ok (.goto 4, 3) := by decide +kernel
theorem dX8_isPure_14 : decode cX8_isPure 14 = .ok (.iconst 0, 1) := by decide +kernel
theorem dX8_isPure_15 : decode cX8_isPure 15 = .ok (.ireturn, 1) := by decide +kernel
theorem dX8_neighbour_0 : decode cX8_neighbour 0 = .ok (.iload_n 1, 1) := by decide +kernel
theorem dX8_neighbour_1 : decode cX8_neighbour 1 = .ok (.iload_n 2, 1) := by decide +kernel
theorem dX8_neighbour_2 : decode cX8_neighbour 2 = .ok (.iadd, 1) := by decide +kernel
theorem dX8_neighbour_3 : decode cX8_neighbour 3 = .ok (.istore_n 3, 1) := by decide +kernel
theorem dX8_neighbour_4 : decode cX8_neighbour 4 = .ok (.iload_n 3, 1) := by decide +kernel
theorem dX8_neighbour_5 : decode cX8_neighbour 5 = .ok (.ifCond .lt 26, 3) := by decide +kernel
theorem dX8_neighbour_8 : decode cX8_neighbour 8 = .ok (.iload_n 3, 1) := by decide +kernel
theorem dX8_neighbour_9 : decode cX8_neighbour 9 = .ok (.aload_n 0, 1) := by decide +kernel
theorem dX8_neighbour_10 : decode cX8_neighbour 10 = .ok (.getfield 13, 3) := by decide +kernel
theorem dX8_neighbour_13 : decode cX8_neighbour 13 = .ok (.if_icmp .ge 18, 3) := by decide +kernel
theorem dX8_neighbour_16 : decode cX8_neighbour 16 = .ok (.aload_n 0, 1) := by decide +kernel
theorem dX8_neighbour_17 : decode cX8_neighbour 17 = .ok (.iload_n 3, 1) := by decide +kernel
theorem dX8_neighbour_18 : decode cX8_neighbour 18 = .ok (.invokevirtual 146, 3) := by decide +kernel
theorem dX8_neighbour_21 : decode cX8_neighbour 21 = .ok (.ifCond .ne 10, 3) := by decide +kernel
theorem dX8_neighbour_24 : decode cX8_neighbour 24 = .ok (.iload_n 3, 1) := by decide +kernel
theorem dX8_neighbour_25 : decode cX8_neighbour 25 = .ok (.iload_n 2, 1) := by decide +kernel
theorem dX8_neighbour_26 : decode cX8_neighbour 26 = .ok (.iadd, 1) := by decide +kernel
theorem dX8_neighbour_27 : decode cX8_neighbour 27 = .ok (.istore_n 3, 1) := by decide +kernel
theorem dX8_neighbour_28 : decode cX8_neighbour 28 = .ok (.goto (-24), 3) := by decide +kernel
theorem dX8_neighbour_31 : decode cX8_neighbour 31 = .ok (.iload_n 3, 1) := by decide +kernel
theorem dX8_neighbour_32 : decode cX8_neighbour 32 = .ok (.ifCond .lt 11, 3) := by decide +kernel
theorem dX8_neighbour_35 : decode cX8_neighbour 35 = .ok (.iload_n 3, 1) := by decide +kernel
theorem dX8_neighbour_36 : decode cX8_neighbour 36 = .ok (.aload_n 0, 1) := by decide +kernel
theorem dX8_neighbour_37 : decode cX8_neighbour 37 = .ok (.getfield 13, 3) := by decide +kernel
theorem dX8_neighbour_40 : decode cX8_neighbour 40 = .ok (.if_icmp .lt 7, 3) := by decide +kernel
theorem dX8_neighbour_43 : decode cX8_neighbour 43 = .ok (.iconst (-1), 1) := by decide +kernel
theorem dX8_neighbour_44 : decode cX8_neighbour 44 = .ok (.goto 4, 3) := by decide +kernel
theorem dX8_neighbour_47 : decode cX8_neighbour 47 = .ok (.iload_n 3, 1) := by decide +kernel
theorem dX8_neighbour_48 : decode cX8_neighbour 48 = .ok (.ireturn, 1) := by decide +kernel
theorem dX8_border_0 : decode cX8_border 0 = .ok (.aload_n 0, 1) := by decide +kernel
theorem dX8_border_1 : decode cX8_border 1 = .ok (.iload_n 1, 1) := by decide +kernel
theorem dX8_border_2 : decode cX8_border 2 = .ok (.invokevirtual 146, 3) := by decide +kernel
theorem dX8_border_5 : decode cX8_border 5 = .ok (.ifCond .ne 5, 3) := by decide +kernel
theorem dX8_border_8 : decode cX8_border 8 = .ok (.iconst (-1), 1) := by decide +kernel
theorem dX8_border_9 : decode cX8_border 9 = .ok (.ireturn, 1) := by decide +kernel
theorem dX8_border_10 : decode cX8_border 10 = .ok (.aload_n 0, 1) := by decide +kernel
theorem dX8_border_11 : decode cX8_border 11 = .ok (.iload_n 1, 1) := by decide +kernel
theorem dX8_border_12 : decode cX8_border 12 = .ok (.iconst (-1), 1) := by decide +kernel
theorem dX8_border_13 : decode cX8_border 13 = .ok (.invokevirtual 149, 3) := by decide +kernel
theorem dX8_border_16 : decode cX8_border 16 = .ok (.istore_n 2, 1) := by decide +kernel
theorem dX8_border_17 : decode cX8_border 17 = .ok (.iload_n 2, 1) := by decide +kernel
theorem dX8_border_18 : decode cX8_border 18 = .ok (.iconst (-1), 1) := by decide +kernel
theorem dX8_border_19 : decode cX8_border 19 = .ok (.if_icmp .eq 18, 3) := by decide +kernel
theorem dX8_border_22 : decode cX8_border 22 = .ok (.aload_n 0, 1) := by decide +kernel
theorem dX8_border_23 : decode cX8_border 23 = .ok (.getfield 20, 3) := by decide +kernel
theorem dX8_border_26 : decode cX8_border 26 = .ok (.iload_n 2, 1) := by decide +kernel
theorem dX8_border_27 : decode cX8_border 27 = .ok (.iaload, 1) := by decide +kernel
theorem dX8_border_28 : decode cX8_border 28 = .ok (.aload_n 0, 1) := by decide +kernel
theorem dX8_border_29 : decode cX8_border 29 = .ok (.getfield 20, 3) := by decide +kernel
theorem dX8_border_32 : decode cX8_border 32 = .ok (.iload_n 1, 1) := by decide +kernel
theorem dX8_border_33 : decode cX8_border 33 = .ok (.iaload, 1) := by decide +kernel
theorem dX8_border_34 : decode cX8_border 34 = .ok (.if_icmp .ne 7, 3) := by decide +kernel
theorem dX8_border_37 : decode cX8_border 37 = .ok (.iconst (-1), 1) := by decide +kernel
theorem dX8_border_38 : decode cX8_border 38 = .ok (.goto 4, 3) := by decide +kernel
theorem dX8_border_41 : decode cX8_border 41 = .ok (.iload_n 2, 1) := by decide +kernel
theorem dX8_border_42 : decode cX8_border 42 = .ok (.ireturn, 1) := by decide +kernel
theorem dX8_mayNot_0 : decode cX8_mayNot 0 = .ok (.iload_n 1, 1) := by decide +kernel
theorem dX8_mayNot_1 : decode cX8_mayNot 1 = .ok (.iconst (-1), 1) := by decide +kernel
theorem dX8_mayNot_2 : decode cX8_mayNot 2 = .ok (.if_icmp .eq 36, 3) := by decide +kernel
theorem dX8_mayNot_5 : decode cX8_mayNot 5 = .ok (.iload_n 2, 1) := by decide +kernel
theorem dX8_mayNot_6 : decode cX8_mayNot 6 = .ok (.iconst (-1), 1) := by decide +kernel
theorem dX8_mayNot_7 : decode cX8_mayNot 7 = .ok (.if_icmp .eq 31, 3) := by decide +kernel
theorem dX8_mayNot_10 : decode cX8_mayNot 10 = .ok (.aload_n 0, 1) := by decide +kernel
theorem dX8_mayNot_11 : decode cX8_mayNot 11 = .ok (.getfield 69, 3) := by decide +kernel
theorem dX8_mayNot_14 : decode cX8_mayNot 14 = .ok (.bipush 8, 2) := by decide +kernel
theorem dX8_mayNot_16 : decode cX8_mayNot 16 = .ok (.aload_n 0, 1) := by decide +kernel
theorem dX8_mayNot_17 : decode cX8_mayNot 17 = .ok (.getfield 20, 3) := by decide +kernel
theorem dX8_mayNot_20 : decode cX8_mayNot 20 = .ok (.iload_n 1, 1) := by decide +kernel
theorem dX8_mayNot_21 : decode cX8_mayNot 21 = .ok (.iaload, 1) := by decide +kernel
theorem dX8_mayNot_22 : decode cX8_mayNot 22 = .ok (.imul, 1) := by decide +kernel
theorem dX8_mayNot_23 : decode cX8_mayNot 23 = .ok (.aload_n 0, 1) := by decide +kernel
theorem dX8_mayNot_24 : decode cX8_mayNot 24 = .ok (.getfield 20, 3) := by decide +kernel
theorem dX8_mayNot_27 : decode cX8_mayNot 27 = .ok (.iload_n 2, 1) := by decide +kernel
theorem dX8_mayNot_28 : decode cX8_mayNot 28 = .ok (.iaload, 1) := by decide +kernel
theorem dX8_mayNot_29 : decode cX8_mayNot 29 = .ok (.iadd, 1) := by decide +kernel
theorem dX8_mayNot_30 : decode cX8_mayNot 30 = .ok (.baload, 1) := by decide +kernel
theorem dX8_mayNot_31 : decode cX8_mayNot 31 = .ok (.ifCond .eq 7, 3) := by decide +kernel
theorem dX8_mayNot_34 : decode cX8_mayNot 34 = .ok (.iconst 1, 1) := by decide +kernel
theorem dX8_mayNot_35 : decode cX8_mayNot 35 = .ok (.goto 4, 3) := by decide +kernel
theorem dX8_mayNot_38 : decode cX8_mayNot 38 = .ok (.iconst 0, 1) := by decide +kernel
theorem dX8_mayNot_39 : decode cX8_mayNot 39 = .ok (.ireturn, 1) := by decide +kernel
theorem dX8_isWrong_0 : decode cX8_isWrong 0 = .ok (.aload_n 0, 1) := by decide +kernel
theorem dX8_isWrong_1 : decode cX8_isWrong 1 = .ok (.iload_n 1, 1) := by decide +kernel
theorem dX8_isWrong_2 : decode cX8_isWrong 2 = .ok (.iconst (-1), 1) := by decide +kernel
theorem dX8_isWrong_3 : decode cX8_isWrong 3 = .ok (.invokevirtual 149, 3) := by decide +kernel
theorem dX8_isWrong_6 : decode cX8_isWrong 6 = .ok (.istore_n 2, 1) := by decide +kernel
theorem dX8_isWrong_7 : decode cX8_isWrong 7 = .ok (.aload_n 0, 1) := by decide +kernel
theorem dX8_isWrong_8 : decode cX8_isWrong 8 = .ok (.iload_n 1, 1) := by decide +kernel
theorem dX8_isWrong_9 : decode cX8_isWrong 9 = .ok (.iconst 1, 1) := by decide +kernel
theorem dX8_isWrong_10 : decode cX8_isWrong 10 = .ok (.invokevirtual 149, 3) := by decide +kernel
theorem dX8_isWrong_13 : decode cX8_isWrong 13 = .ok (.istore_n 3, 1) := by decide +kernel
theorem dX8_isWrong_14 : decode cX8_isWrong 14 = .ok (.aload_n 0, 1) := by decide +kernel
theorem dX8_isWrong_15 : decode cX8_isWrong 15 = .ok (.iload_n 1, 1) := by decide +kernel
theorem dX8_isWrong_16 : decode cX8_isWrong 16 = .ok (.invokevirtual 146, 3) := by decide +kernel
theorem dX8_isWrong_19 : decode cX8_isWrong 19 = .ok (.ifCond .eq 29, 3) := by decide +kernel
theorem dX8_isWrong_22 : decode cX8_isWrong 22 = .ok (.aload_n 0, 1) := by decide +kernel
theorem dX8_isWrong_23 : decode cX8_isWrong 23 = .ok (.iload_n 2, 1) := by decide +kernel
theorem dX8_isWrong_24 : decode cX8_isWrong 24 = .ok (.iload_n 1, 1) := by decide +kernel
theorem dX8_isWrong_25 : decode cX8_isWrong 25 = .ok (.invokevirtual 153, 3) := by decide +kernel
theorem dX8_isWrong_28 : decode cX8_isWrong 28 = .ok (.ifCond .ne 12, 3) := by decide +kernel
theorem dX8_isWrong_31 : decode cX8_isWrong 31 = .ok (.aload_n 0, 1) := by decide +kernel
theorem dX8_isWrong_32 : decode cX8_isWrong 32 = .ok (.iload_n 1, 1) := by decide +kernel
theorem dX8_isWrong_33 : decode cX8_isWrong 33 = .ok (.iload_n 3, 1) := by decide +kernel
theorem dX8_isWrong_34 : decode cX8_isWrong 34 = .ok (.invokevirtual 153, 3) := by decide +kernel
theorem dX8_isWrong_37 : decode cX8_isWrong 37 = .ok (.ifCond .eq 7, 3) := by decide +kernel
theorem dX8_isWrong_40 : decode cX8_isWrong 40 = .ok (.iconst 1, 1) := by decide +kernel
theorem dX8_isWrong_41 : decode cX8_isWrong 41 = .ok (.goto 13, 3) := by decide +kernel
theorem dX8_isWrong_44 : decode cX8_isWrong 44 = .ok (.iconst 0, 1) := by decide +kernel
theorem dX8_isWrong_45 : decode cX8_isWrong 45 = .ok (.goto 9, 3) := by decide +kernel
theorem dX8_isWrong_48 : decode cX8_isWrong 48 = .ok (.aload_n 0, 1) := by decide +kernel
theorem dX8_isWrong_49 : decode cX8_isWrong 49 = .ok (.iload_n 2, 1) := by decide +kernel
theorem dX8_isWrong_50 : decode cX8_isWrong 50 = .ok (.iload_n 3, 1) := by decide +kernel
theorem dX8_isWrong_51 : decode cX8_isWrong 51 = .ok (.invokevirtual 153, 3) := by decide +kernel
theorem dX8_isWrong_54 : decode cX8_isWrong 54 = .ok (.ireturn, 1) := by decide +kernel
theorem dX8_fits_0 : decode cX8_fits 0 = .ok (.aload_n 0, 1) := by decide +kernel
theorem dX8_fits_1 : decode cX8_fits 1 = .ok (.getfield 50, 3) := by decide +kernel
theorem dX8_fits_4 : decode cX8_fits 4 = .ok (.iload_n 1, 1) := by decide +kernel
theorem dX8_fits_5 : decode cX8_fits 5 = .ok (.baload, 1) := by decide +kernel
theorem dX8_fits_6 : decode cX8_fits 6 = .ok (.ifCond .eq 39, 3) := by decide +kernel
theorem dX8_fits_9 : decode cX8_fits 9 = .ok (.bipush 100, 2) := by decide +kernel
theorem dX8_fits_11 : decode cX8_fits 11 = .ok (.aload_n 0, 1) := by decide +kernel
theorem dX8_fits_12 : decode cX8_fits 12 = .ok (.getfield 63, 3) := by decide +kernel
theorem dX8_fits_15 : decode cX8_fits 15 = .ok (.iload_n 1, 1) := by decide +kernel
theorem dX8_fits_16 : decode cX8_fits 16 = .ok (.iaload, 1) := by decide +kernel
theorem dX8_fits_17 : decode cX8_fits 17 = .ok (.iconst 1, 1) := by decide +kernel
theorem dX8_fits_18 : decode cX8_fits 18 = .ok (.iadd, 1) := by decide +kernel
theorem dX8_fits_19 : decode cX8_fits 19 = .ok (.imul, 1) := by decide +kernel
theorem dX8_fits_20 : decode cX8_fits 20 = .ok (.aload_n 0, 1) := by decide +kernel
theorem dX8_fits_21 : decode cX8_fits 21 = .ok (.getfield 75, 3) := by decide +kernel
theorem dX8_fits_24 : decode cX8_fits 24 = .ok (.iload_n 1, 1) := by decide +kernel
theorem dX8_fits_25 : decode cX8_fits 25 = .ok (.bipush 8, 2) := by decide +kernel
theorem dX8_fits_27 : decode cX8_fits 27 = .ok (.irem, 1) := by decide +kernel
theorem dX8_fits_28 : decode cX8_fits 28 = .ok (.iaload, 1) := by decide +kernel
theorem dX8_fits_29 : decode cX8_fits 29 = .ok (.aload_n 0, 1) := by decide +kernel
theorem dX8_fits_30 : decode cX8_fits 30 = .ok (.getfield 60, 3) := by decide +kernel
theorem dX8_fits_33 : decode cX8_fits 33 = .ok (.iload_n 1, 1) := by decide +kernel
theorem dX8_fits_34 : decode cX8_fits 34 = .ok (.iaload, 1) := by decide +kernel
theorem dX8_fits_35 : decode cX8_fits 35 = .ok (.iconst 1, 1) := by decide +kernel
theorem dX8_fits_36 : decode cX8_fits 36 = .ok (.iadd, 1) := by decide +kernel
theorem dX8_fits_37 : decode cX8_fits 37 = .ok (.imul, 1) := by decide +kernel
theorem dX8_fits_38 : decode cX8_fits 38 = .ok (.if_icmp .gt 7, 3) := by decide +kernel
theorem dX8_fits_41 : decode cX8_fits 41 = .ok (.iconst 1, 1) := by decide +kernel
theorem dX8_fits_42 : decode cX8_fits 42 = .ok (.goto 4, 3) := by decide +kernel
theorem dX8_fits_45 : decode cX8_fits 45 = .ok (.iconst 0, 1) := by decide +kernel
theorem dX8_fits_46 : decode cX8_fits 46 = .ok (.ireturn, 1) := by decide +kernel
theorem dX8_goesOut_0 : decode cX8_goesOut 0 = .ok (.iconst (-1), 1) := by decide +kernel
theorem dX8_goesOut_1 : decode cX8_goesOut 1 = .ok (.istore_n 3, 1) := by decide +kernel
theorem dX8_goesOut_2 : decode cX8_goesOut 2 = .ok (.iconst 0, 1) := by decide +kernel
theorem dX8_goesOut_3 : decode cX8_goesOut 3 = .ok (.istore 4, 2) := by decide +kernel
theorem dX8_goesOut_5 : decode cX8_goesOut 5 = .ok (.aload_n 0, 1) := by decide +kernel
theorem dX8_goesOut_6 : decode cX8_goesOut 6 = .ok (.getfield 38, 3) := by decide +kernel
theorem dX8_goesOut_9 : decode cX8_goesOut 9 = .ok (.aload_n 0, 1) := by decide +kernel
theorem dX8_goesOut_10 : decode cX8_goesOut 10 = .ok (.getfield 16, 3) := by decide +kernel
theorem dX8_goesOut_13 : decode cX8_goesOut 13 = .ok (.iload_n 1, 1) := by decide +kernel
theorem dX8_goesOut_14 : decode cX8_goesOut 14 = .ok (.iaload, 1) := by decide +kernel
theorem dX8_goesOut_15 : decode cX8_goesOut 15 = .ok (.dup2, 1) := by decide +kernel
theorem dX8_goesOut_16 : decode cX8_goesOut 16 = .ok (.iaload, 1) := by decide +kernel
theorem dX8_goesOut_17 : decode cX8_goesOut 17 = .ok (.iconst 1, 1) := by decide +kernel
theorem dX8_goesOut_18 : decode cX8_goesOut 18 = .ok (.iadd, 1) := by decide +kernel
theorem dX8_goesOut_19 : decode cX8_goesOut 19 = .ok (.iastore, 1) := by decide +kernel
theorem dX8_goesOut_20 : decode cX8_goesOut 20 = .ok (.aload_n 0, 1) := by decide +kernel
theorem dX8_goesOut_21 : decode cX8_goesOut 21 = .ok (.iload_n 1, 1) := by decide +kernel
theorem dX8_goesOut_22 : decode cX8_goesOut 22 = .ok (.invokevirtual 146, 3) := by decide +kernel
theorem dX8_goesOut_25 : decode cX8_goesOut 25 = .ok (.ifCond .eq 41, 3) := by decide +kernel
theorem dX8_goesOut_28 : decode cX8_goesOut 28 = .ok (.aload_n 0, 1) := by decide +kernel
theorem dX8_goesOut_29 : decode cX8_goesOut 29 = .ok (.getfield 50, 3) := by decide +kernel
theorem dX8_goesOut_32 : decode cX8_goesOut 32 = .ok (.bipush 8, 2) := by decide +kernel
theorem dX8_goesOut_34 : decode cX8_goesOut 34 = .ok (.iload_n 2, 1) := by decide +kernel
theorem dX8_goesOut_35 : decode cX8_goesOut 35 = .ok (.imul, 1) := by decide +kernel
theorem dX8_goesOut_36 : decode cX8_goesOut 36 = .ok (.aload_n 0, 1) := by decide +kernel
theorem dX8_goesOut_37 : decode cX8_goesOut 37 = .ok (.getfield 20, 3) := by decide +kernel
theorem dX8_goesOut_40 : decode cX8_goesOut 40 = .ok (.iload_n 1, 1) := by decide +kernel
theorem dX8_goesOut_41 : decode cX8_goesOut 41 = .ok (.iaload, 1) := by decide +kernel
theorem dX8_goesOut_42 : decode cX8_goesOut 42 = .ok (.iadd, 1) := by decide +kernel
theorem dX8_goesOut_43 : decode cX8_goesOut 43 = .ok (.baload, 1) := by decide +kernel
theorem dX8_goesOut_44 : decode cX8_goesOut 44 = .ok (.ifCond .eq 17, 3) := by decide +kernel
theorem dX8_goesOut_47 : decode cX8_goesOut 47 = .ok (.bipush 8, 2) := by decide +kernel
theorem dX8_goesOut_49 : decode cX8_goesOut 49 = .ok (.iload_n 2, 1) := by decide +kernel
theorem dX8_goesOut_50 : decode cX8_goesOut 50 = .ok (.imul, 1) := by decide +kernel
theorem dX8_goesOut_51 : decode cX8_goesOut 51 = .ok (.aload_n 0, 1) := by decide +kernel
theorem dX8_goesOut_52 : decode cX8_goesOut 52 = .ok (.getfield 20, 3) := by decide +kernel
theorem dX8_goesOut_55 : decode cX8_goesOut 55 = .ok (.iload_n 1, 1) := by decide +kernel
theorem dX8_goesOut_56 : decode cX8_goesOut 56 = .ok (.iaload, 1) := by decide +kernel
theorem dX8_goesOut_57 : decode cX8_goesOut 57 = .ok (.iadd, 1) := by decide +kernel
theorem dX8_goesOut_58 : decode cX8_goesOut 58 = .ok (.goto 4, 3) := by decide +kernel
theorem dX8_goesOut_61 : decode cX8_goesOut 61 = .ok (.iconst (-1), 1) := by decide +kernel
theorem dX8_goesOut_62 : decode cX8_goesOut 62 = .ok (.istore_n 3, 1) := by decide +kernel
theorem dX8_goesOut_63 : decode cX8_goesOut 63 = .ok (.goto 72, 3) := by decide +kernel
theorem dX8_goesOut_66 : decode cX8_goesOut 66 = .ok (.iconst 1, 1) := by decide +kernel
theorem dX8_goesOut_67 : decode cX8_goesOut 67 = .ok (.istore 4, 2) := by decide +kernel
theorem dX8_goesOut_69 : decode cX8_goesOut 69 = .ok (.aload_n 0, 1) := by decide +kernel
theorem dX8_goesOut_70 : decode cX8_goesOut 70 = .ok (.bipush 8, 2) := by decide +kernel
theorem dX8_goesOut_72 : decode cX8_goesOut 72 = .ok (.iload_n 2, 1) := by decide +kernel
theorem dX8_goesOut_73 : decode cX8_goesOut 73 = .ok (.imul, 1) := by decide +kernel
theorem dX8_goesOut_74 : decode cX8_goesOut 74 = .ok (.aload_n 0, 1) := by decide +kernel
theorem dX8_goesOut_75 : decode cX8_goesOut 75 = .ok (.getfield 20, 3) := by decide +kernel
theorem dX8_goesOut_78 : decode cX8_goesOut 78 = .ok (.iload_n 1, 1) := by decide +kernel
theorem dX8_goesOut_79 : decode cX8_goesOut 79 = .ok (.iaload, 1) := by decide +kernel
theorem dX8_goesOut_80 : decode cX8_goesOut 80 = .ok (.iadd, 1) := by decide +kernel
theorem dX8_goesOut_81 : decode cX8_goesOut 81 = .ok (.invokevirtual 156, 3) := by decide +kernel
theorem dX8_goesOut_84 : decode cX8_goesOut 84 = .ok (.ifCond .eq 17, 3) := by decide +kernel
