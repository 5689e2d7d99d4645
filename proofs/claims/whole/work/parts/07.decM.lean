theorem dX8_goesOut_87 : decode cX8_goesOut 87 = .ok (.bipush 8, 2) := by decide +kernel
theorem dX8_goesOut_89 : decode cX8_goesOut 89 = .ok (.iload_n 2, 1) := by decide +kernel
theorem dX8_goesOut_90 : decode cX8_goesOut 90 = .ok (.imul, 1) := by decide +kernel
theorem dX8_goesOut_91 : decode cX8_goesOut 91 = .ok (.aload_n 0, 1) := by decide +kernel
theorem dX8_goesOut_92 : decode cX8_goesOut 92 = .ok (.getfield 20, 3) := by decide +kernel
theorem dX8_goesOut_95 : decode cX8_goesOut 95 = .ok (.iload_n 1, 1) := by decide +kernel
theorem dX8_goesOut_96 : decode cX8_goesOut 96 = .ok (.iaload, 1) := by decide +kernel
theorem dX8_goesOut_97 : decode cX8_goesOut 97 = .ok (.iadd, 1) := by decide +kernel
theorem dX8_goesOut_98 : decode cX8_goesOut 98 = .ok (.goto 36, 3) := by decide +kernel
theorem dX8_goesOut_101 : decode cX8_goesOut 101 = .ok (.aload_n 0, 1) := by decide +kernel
theorem dX8_goesOut_102 : decode cX8_goesOut 102 = .ok (.bipush 8, 2) := by decide +kernel
theorem dX8_goesOut_104 : decode cX8_goesOut 104 = .ok (.iload_n 2, 1) := by decide +kernel
theorem dX8_goesOut_105 : decode cX8_goesOut 105 = .ok (.imul, 1) := by decide +kernel
theorem dX8_goesOut_106 : decode cX8_goesOut 106 = .ok (.aload_n 0, 1) := by decide +kernel
theorem dX8_goesOut_107 : decode cX8_goesOut 107 = .ok (.getfield 23, 3) := by decide +kernel
theorem dX8_goesOut_110 : decode cX8_goesOut 110 = .ok (.iload_n 1, 1) := by decide +kernel
theorem dX8_goesOut_111 : decode cX8_goesOut 111 = .ok (.iaload, 1) := by decide +kernel
theorem dX8_goesOut_112 : decode cX8_goesOut 112 = .ok (.iadd, 1) := by decide +kernel
theorem dX8_goesOut_113 : decode cX8_goesOut 113 = .ok (.invokevirtual 156, 3) := by decide +kernel
theorem dX8_goesOut_116 : decode cX8_goesOut 116 = .ok (.ifCond .eq 17, 3) := by decide +kernel
theorem dX8_goesOut_119 : decode cX8_goesOut 119 = .ok (.bipush 8, 2) := by decide +kernel
theorem dX8_goesOut_121 : decode cX8_goesOut 121 = .ok (.iload_n 2, 1) := by decide +kernel
theorem dX8_goesOut_122 : decode cX8_goesOut 122 = .ok (.imul, 1) := by decide +kernel
theorem dX8_goesOut_123 : decode cX8_goesOut 123 = .ok (.aload_n 0, 1) := by decide +kernel
theorem dX8_goesOut_124 : decode cX8_goesOut 124 = .ok (.getfield 23, 3) := by decide +kernel
theorem dX8_goesOut_127 : decode cX8_goesOut 127 = .ok (.iload_n 1, 1) := by decide +kernel
theorem dX8_goesOut_128 : decode cX8_goesOut 128 = .ok (.iaload, 1) := by decide +kernel
theorem dX8_goesOut_129 : decode cX8_goesOut 129 = .ok (.iadd, 1) := by decide +kernel
theorem dX8_goesOut_130 : decode cX8_goesOut 130 = .ok (.goto 4, 3) := by decide +kernel
theorem dX8_goesOut_133 : decode cX8_goesOut 133 = .ok (.iconst (-1), 1) := by decide +kernel
theorem dX8_goesOut_134 : decode cX8_goesOut 134 = .ok (.istore_n 3, 1) := by decide +kernel
theorem dX8_goesOut_135 : decode cX8_goesOut 135 = .ok (.iload_n 3, 1) := by decide +kernel
theorem dX8_goesOut_136 : decode cX8_goesOut 136 = .ok (.iconst (-1), 1) := by decide +kernel
theorem dX8_goesOut_137 : decode cX8_goesOut 137 = .ok (.if_icmp .ne 15, 3) := by decide +kernel
theorem dX8_goesOut_140 : decode cX8_goesOut 140 = .ok (.aload_n 0, 1) := by decide +kernel
theorem dX8_goesOut_141 : decode cX8_goesOut 141 = .ok (.getfield 47, 3) := by decide +kernel
theorem dX8_goesOut_144 : decode cX8_goesOut 144 = .ok (.iload_n 2, 1) := by decide +kernel
theorem dX8_goesOut_145 : decode cX8_goesOut 145 = .ok (.dup2, 1) := by decide +kernel
theorem dX8_goesOut_146 : decode cX8_goesOut 146 = .ok (.iaload, 1) := by decide +kernel
theorem dX8_goesOut_147 : decode cX8_goesOut 147 = .ok (.iconst 1, 1) := by decide +kernel
theorem dX8_goesOut_148 : decode cX8_goesOut 148 = .ok (.iadd, 1) := by decide +kernel
theorem dX8_goesOut_149 : decode cX8_goesOut 149 = .ok (.iastore, 1) := by decide +kernel
theorem dX8_goesOut_150 : decode cX8_goesOut 150 = .ok (.iconst 0, 1) := by decide +kernel
theorem dX8_goesOut_151 : decode cX8_goesOut 151 = .ok (.ireturn, 1) := by decide +kernel
theorem dX8_goesOut_152 : decode cX8_goesOut 152 = .ok (.aload_n 0, 1) := by decide +kernel
theorem dX8_goesOut_153 : decode cX8_goesOut 153 = .ok (.getfield 60, 3) := by decide +kernel
theorem dX8_goesOut_156 : decode cX8_goesOut 156 = .ok (.iload_n 3, 1) := by decide +kernel
theorem dX8_goesOut_157 : decode cX8_goesOut 157 = .ok (.dup2, 1) := by decide +kernel
theorem dX8_goesOut_158 : decode cX8_goesOut 158 = .ok (.iaload, 1) := by decide +kernel
theorem dX8_goesOut_159 : decode cX8_goesOut 159 = .ok (.iconst 1, 1) := by decide +kernel
theorem dX8_goesOut_160 : decode cX8_goesOut 160 = .ok (.iadd, 1) := by decide +kernel
theorem dX8_goesOut_161 : decode cX8_goesOut 161 = .ok (.iastore, 1) := by decide +kernel
theorem dX8_goesOut_162 : decode cX8_goesOut 162 = .ok (.aload_n 0, 1) := by decide +kernel
theorem dX8_goesOut_163 : decode cX8_goesOut 163 = .ok (.getfield 63, 3) := by decide +kernel
theorem dX8_goesOut_166 : decode cX8_goesOut 166 = .ok (.iload_n 3, 1) := by decide +kernel
theorem dX8_goesOut_167 : decode cX8_goesOut 167 = .ok (.dup2, 1) := by decide +kernel
theorem dX8_goesOut_168 : decode cX8_goesOut 168 = .ok (.iaload, 1) := by decide +kernel
theorem dX8_goesOut_169 : decode cX8_goesOut 169 = .ok (.iload 4, 2) := by decide +kernel
theorem dX8_goesOut_171 : decode cX8_goesOut 171 = .ok (.iadd, 1) := by decide +kernel
theorem dX8_goesOut_172 : decode cX8_goesOut 172 = .ok (.iastore, 1) := by decide +kernel
theorem dX8_goesOut_173 : decode cX8_goesOut 173 = .ok (.aload_n 0, 1) := by decide +kernel
theorem dX8_goesOut_174 : decode cX8_goesOut 174 = .ok (.getfield 66, 3) := by decide +kernel
theorem dX8_goesOut_177 : decode cX8_goesOut 177 = .ok (.iload_n 3, 1) := by decide +kernel
theorem dX8_goesOut_178 : decode cX8_goesOut 178 = .ok (.dup2, 1) := by decide +kernel
theorem dX8_goesOut_179 : decode cX8_goesOut 179 = .ok (.iaload, 1) := by decide +kernel
theorem dX8_goesOut_180 : decode cX8_goesOut 180 = .ok (.iconst 1, 1) := by decide +kernel
theorem dX8_goesOut_181 : decode cX8_goesOut 181 = .ok (.iadd, 1) := by decide +kernel
theorem dX8_goesOut_182 : decode cX8_goesOut 182 = .ok (.iastore, 1) := by decide +kernel
theorem dX8_goesOut_183 : decode cX8_goesOut 183 = .ok (.aload_n 0, 1) := by decide +kernel
theorem dX8_goesOut_184 : decode cX8_goesOut 184 = .ok (.getfield 60, 3) := by decide +kernel
theorem dX8_goesOut_187 : decode cX8_goesOut 187 = .ok (.iload_n 3, 1) := by decide +kernel
theorem dX8_goesOut_188 : decode cX8_goesOut 188 = .ok (.iaload, 1) := by decide +kernel
theorem dX8_goesOut_189 : decode cX8_goesOut 189 = .ok (.aload_n 0, 1) := by decide +kernel
theorem dX8_goesOut_190 : decode cX8_goesOut 190 = .ok (.getfield 57, 3) := by decide +kernel
theorem dX8_goesOut_193 : decode cX8_goesOut 193 = .ok (.iload_n 3, 1) := by decide +kernel
theorem dX8_goesOut_194 : decode cX8_goesOut 194 = .ok (.iaload, 1) := by decide +kernel
theorem dX8_goesOut_195 : decode cX8_goesOut 195 = .ok (.if_icmp .le 7, 3) := by decide +kernel
theorem dX8_goesOut_198 : decode cX8_goesOut 198 = .ok (.iconst 1, 1) := by decide +kernel
theorem dX8_goesOut_199 : decode cX8_goesOut 199 = .ok (.goto 4, 3) := by decide +kernel
theorem dX8_goesOut_202 : decode cX8_goesOut 202 = .ok (.iconst 0, 1) := by decide +kernel
theorem dX8_goesOut_203 : decode cX8_goesOut 203 = .ok (.ireturn, 1) := by decide +kernel
theorem dX8_mixes_0 : decode cX8_mixes 0 = .ok (.aload_n 0, 1) := by decide +kernel
theorem dX8_mixes_1 : decode cX8_mixes 1 = .ok (.iload_n 1, 1) := by decide +kernel
theorem dX8_mixes_2 : decode cX8_mixes 2 = .ok (.invokevirtual 159, 3) := by decide +kernel
theorem dX8_mixes_5 : decode cX8_mixes 5 = .ok (.istore 4, 2) := by decide +kernel
theorem dX8_mixes_7 : decode cX8_mixes 7 = .ok (.iload 4, 2) := by decide +kernel
theorem dX8_mixes_9 : decode cX8_mixes 9 = .ok (.iconst (-1), 1) := by decide +kernel
theorem dX8_mixes_10 : decode cX8_mixes 10 = .ok (.if_icmp .eq 39, 3) := by decide +kernel
theorem dX8_mixes_13 : decode cX8_mixes 13 = .ok (.iload 4, 2) := by decide +kernel
theorem dX8_mixes_15 : decode cX8_mixes 15 = .ok (.iload_n 2, 1) := by decide +kernel
theorem dX8_mixes_16 : decode cX8_mixes 16 = .ok (.if_icmp .lt 33, 3) := by decide +kernel
theorem dX8_mixes_19 : decode cX8_mixes 19 = .ok (.iload_n 1, 1) := by decide +kernel
theorem dX8_mixes_20 : decode cX8_mixes 20 = .ok (.iload_n 3, 1) := by decide +kernel
theorem dX8_mixes_21 : decode cX8_mixes 21 = .ok (.if_icmp .ge 28, 3) := by decide +kernel
theorem dX8_mixes_24 : decode cX8_mixes 24 = .ok (.aload_n 0, 1) := by decide +kernel
theorem dX8_mixes_25 : decode cX8_mixes 25 = .ok (.getfield 72, 3) := by decide +kernel
theorem dX8_mixes_28 : decode cX8_mixes 28 = .ok (.bipush 8, 2) := by decide +kernel
theorem dX8_mixes_30 : decode cX8_mixes 30 = .ok (.aload_n 0, 1) := by decide +kernel
theorem dX8_mixes_31 : decode cX8_mixes 31 = .ok (.getfield 20, 3) := by decide +kernel
theorem dX8_mixes_34 : decode cX8_mixes 34 = .ok (.iload 4, 2) := by decide +kernel
theorem dX8_mixes_36 : decode cX8_mixes 36 = .ok (.iaload, 1) := by decide +kernel
theorem dX8_mixes_37 : decode cX8_mixes 37 = .ok (.imul, 1) := by decide +kernel
theorem dX8_mixes_38 : decode cX8_mixes 38 = .ok (.aload_n 0, 1) := by decide +kernel
theorem dX8_mixes_39 : decode cX8_mixes 39 = .ok (.getfield 20, 3) := by decide +kernel
theorem dX8_mixes_42 : decode cX8_mixes 42 = .ok (.iload_n 1, 1) := by decide +kernel
theorem dX8_mixes_43 : decode cX8_mixes 43 = .ok (.iaload, 1) := by decide +kernel
theorem dX8_mixes_44 : decode cX8_mixes 44 = .ok (.iadd, 1) := by decide +kernel
theorem dX8_mixes_45 : decode cX8_mixes 45 = .ok (.iaload, 1) := by decide +kernel
theorem dX8_mixes_46 : decode cX8_mixes 46 = .ok (.ifCond .ne 4, 3) := by decide +kernel
theorem dX8_mixes_49 : decode cX8_mixes 49 = .ok (.return_, 1) := by decide +kernel
theorem dX8_mixes_50 : decode cX8_mixes 50 = .ok (.aload_n 0, 1) := by decide +kernel
theorem dX8_mixes_51 : decode cX8_mixes 51 = .ok (.getfield 72, 3) := by decide +kernel
theorem dX8_mixes_54 : decode cX8_mixes 54 = .ok (.bipush 8, 2) := by decide +kernel
theorem dX8_mixes_56 : decode cX8_mixes 56 = .ok (.aload_n 0, 1) := by decide +kernel
theorem dX8_mixes_57 : decode cX8_mixes 57 = .ok (.getfield 20, 3) := by decide +kernel
theorem dX8_mixes_60 : decode cX8_mixes 60 = .ok (.iload 4, 2) := by decide +kernel
theorem dX8_mixes_62 : decode cX8_mixes 62 = .ok (.iaload, 1) := by decide +kernel
theorem dX8_mixes_63 : decode cX8_mixes 63 = .ok (.imul, 1) := by decide +kernel
theorem dX8_mixes_64 : decode cX8_mixes 64 = .ok (.aload_n 0, 1) := by decide +kernel
theorem dX8_mixes_65 : decode cX8_mixes 65 = .ok (.getfield 20, 3) := by decide +kernel
theorem dX8_mixes_68 : decode cX8_mixes 68 = .ok (.iload_n 1, 1) := by decide +kernel
theorem dX8_mixes_69 : decode cX8_mixes 69 = .ok (.iaload, 1) := by decide +kernel
theorem dX8_mixes_70 : decode cX8_mixes 70 = .ok (.iadd, 1) := by decide +kernel
theorem dX8_mixes_71 : decode cX8_mixes 71 = .ok (.iaload, 1) := by decide +kernel
theorem dX8_mixes_72 : decode cX8_mixes 72 = .ok (.istore 5, 2) := by decide +kernel
theorem dX8_mixes_74 : decode cX8_mixes 74 = .ok (.aload_n 0, 1) := by decide +kernel
theorem dX8_mixes_75 : decode cX8_mixes 75 = .ok (.getfield 26, 3) := by decide +kernel
theorem dX8_mixes_78 : decode cX8_mixes 78 = .ok (.iload_n 1, 1) := by decide +kernel
theorem dX8_mixes_79 : decode cX8_mixes 79 = .ok (.iaload, 1) := by decide +kernel
theorem dX8_mixes_80 : decode cX8_mixes 80 = .ok (.iload 5, 2) := by decide +kernel
theorem dX8_mixes_82 : decode cX8_mixes 82 = .ok (.if_icmp .ge 13, 3) := by decide +kernel
theorem dX8_mixes_85 : decode cX8_mixes 85 = .ok (.aload_n 0, 1) := by decide +kernel
theorem dX8_mixes_86 : decode cX8_mixes 86 = .ok (.getfield 26, 3) := by decide +kernel
theorem dX8_mixes_89 : decode cX8_mixes 89 = .ok (.iload_n 1, 1) := by decide +kernel
theorem dX8_mixes_90 : decode cX8_mixes 90 = .ok (.dup2, 1) := by decide +kernel
theorem dX8_mixes_91 : decode cX8_mixes 91 = .ok (.iaload, 1) := by decide +kernel
theorem dX8_mixes_92 : decode cX8_mixes 92 = .ok (.iconst 1, 1) := by decide +kernel
theorem dX8_mixes_93 : decode cX8_mixes 93 = .ok (.iadd, 1) := by decide +kernel
theorem dX8_mixes_94 : decode cX8_mixes 94 = .ok (.iastore, 1) := by decide +kernel
theorem dX8_mixes_95 : decode cX8_mixes 95 = .ok (.aload_n 0, 1) := by decide +kernel
theorem dX8_mixes_96 : decode cX8_mixes 96 = .ok (.getfield 26, 3) := by decide +kernel
theorem dX8_mixes_99 : decode cX8_mixes 99 = .ok (.iload_n 1, 1) := by decide +kernel
theorem dX8_mixes_100 : decode cX8_mixes 100 = .ok (.iaload, 1) := by decide +kernel
theorem dX8_mixes_101 : decode cX8_mixes 101 = .ok (.iload 5, 2) := by decide +kernel
theorem dX8_mixes_103 : decode cX8_mixes 103 = .ok (.if_icmp .ge 4, 3) := by decide +kernel
theorem dX8_mixes_106 : decode cX8_mixes 106 = .ok (.return_, 1) := by decide +kernel
theorem dX8_mixes_107 : decode cX8_mixes 107 = .ok (.iload_n 1, 1) := by decide +kernel
theorem dX8_mixes_108 : decode cX8_mixes 108 = .ok (.iload 4, 2) := by decide +kernel
theorem dX8_mixes_110 : decode cX8_mixes 110 = .ok (.isub, 1) := by decide +kernel
theorem dX8_mixes_111 : decode cX8_mixes 111 = .ok (.iconst 1, 1) := by decide +kernel
theorem dX8_mixes_112 : decode cX8_mixes 112 = .ok (.isub, 1) := by decide +kernel
theorem dX8_mixes_113 : decode cX8_mixes 113 = .ok (.iconst 2, 1) := by decide +kernel
theorem dX8_mixes_114 : decode cX8_mixes 114 = .ok (.irem, 1) := by decide +kernel
theorem dX8_mixes_115 : decode cX8_mixes 115 = .ok (.ifCond .ne 7, 3) := by decide +kernel
theorem dX8_mixes_118 : decode cX8_mixes 118 = .ok (.iconst 1, 1) := by decide +kernel
theorem dX8_mixes_119 : decode cX8_mixes 119 = .ok (.goto 4, 3) := by decide +kernel
theorem dX8_mixes_122 : decode cX8_mixes 122 = .ok (.iconst 0, 1) := by decide +kernel
theorem dX8_mixes_123 : decode cX8_mixes 123 = .ok (.istore 6, 2) := by decide +kernel
theorem dX8_mixes_125 : decode cX8_mixes 125 = .ok (.iload 6, 2) := by decide +kernel
theorem dX8_mixes_127 : decode cX8_mixes 127 = .ok (.ifCond .eq 8, 3) := by decide +kernel
theorem dX8_mixes_130 : decode cX8_mixes 130 = .ok (.iload 4, 2) := by decide +kernel
theorem dX8_mixes_132 : decode cX8_mixes 132 = .ok (.goto 4, 3) := by decide +kernel
theorem dX8_mixes_135 : decode cX8_mixes 135 = .ok (.iload_n 1, 1) := by decide +kernel
theorem dX8_mixes_136 : decode cX8_mixes 136 = .ok (.istore 7, 2) := by decide +kernel
theorem dX8_mixes_138 : decode cX8_mixes 138 = .ok (.iload 6, 2) := by decide +kernel
theorem dX8_mixes_140 : decode cX8_mixes 140 = .ok (.ifCond .eq 10, 3) := by decide +kernel
theorem dX8_mixes_143 : decode cX8_mixes 143 = .ok (.iload 4, 2) := by decide +kernel
theorem dX8_mixes_145 : decode cX8_mixes 145 = .ok (.iconst 1, 1) := by decide +kernel
theorem dX8_mixes_146 : decode cX8_mixes 146 = .ok (.isub, 1) := by decide +kernel
theorem dX8_mixes_147 : decode cX8_mixes 147 = .ok (.goto 6, 3) := by decide +kernel
theorem dX8_mixes_150 : decode cX8_mixes 150 = .ok (.iload_n 1, 1) := by decide +kernel
theorem dX8_mixes_151 : decode cX8_mixes 151 = .ok (.iconst 1, 1) := by decide +kernel
theorem dX8_mixes_152 : decode cX8_mixes 152 = .ok (.iadd, 1) := by decide +kernel
theorem dX8_mixes_153 : decode cX8_mixes 153 = .ok (.istore 8, 2) := by decide +kernel
theorem dX8_mixes_155 : decode cX8_mixes 155 = .ok (.iload 8, 2) := by decide +kernel
theorem dX8_mixes_157 : decode cX8_mixes 157 = .ok (.iload_n 2, 1) := by decide +kernel
theorem dX8_mixes_158 : decode cX8_mixes 158 = .ok (.if_icmp .lt 35, 3) := by decide +kernel
theorem dX8_mixes_161 : decode cX8_mixes 161 = .ok (.iload 8, 2) := by decide +kernel
theorem dX8_mixes_163 : decode cX8_mixes 163 = .ok (.iload_n 3, 1) := by decide +kernel
theorem dX8_mixes_164 : decode cX8_mixes 164 = .ok (.if_icmp .ge 29, 3) := by decide +kernel
theorem dX8_mixes_167 : decode cX8_mixes 167 = .ok (.aload_n 0, 1) := by decide +kernel
theorem dX8_mixes_168 : decode cX8_mixes 168 = .ok (.iload 8, 2) := by decide +kernel
theorem dX8_mixes_170 : decode cX8_mixes 170 = .ok (.invokevirtual 146, 3) := by decide +kernel
theorem dX8_mixes_173 : decode cX8_mixes 173 = .ok (.ifCond .eq 20, 3) := by decide +kernel
theorem dX8_mixes_176 : decode cX8_mixes 176 = .ok (.aload_n 0, 1) := by decide +kernel
theorem dX8_mixes_177 : decode cX8_mixes 177 = .ok (.getfield 16, 3) := by decide +kernel
theorem dX8_mixes_180 : decode cX8_mixes 180 = .ok (.iload 8, 2) := by decide +kernel
theorem dX8_mixes_182 : decode cX8_mixes 182 = .ok (.iaload, 1) := by decide +kernel
theorem dX8_mixes_183 : decode cX8_mixes 183 = .ok (.aload_n 0, 1) := by decide +kernel
theorem dX8_mixes_184 : decode cX8_mixes 184 = .ok (.getfield 16, 3) := by decide +kernel
theorem dX8_mixes_187 : decode cX8_mixes 187 = .ok (.iload 7, 2) := by decide +kernel
theorem dX8_mixes_189 : decode cX8_mixes 189 = .ok (.iaload, 1) := by decide +kernel
theorem dX8_mixes_190 : decode cX8_mixes 190 = .ok (.if_icmp .eq 4, 3) := by decide +kernel
theorem dX8_mixes_193 : decode cX8_mixes 193 = .ok (.return_, 1) := by decide +kernel
theorem dX8_mixes_194 : decode cX8_mixes 194 = .ok (.aload_n 0, 1) := by decide +kernel
theorem dX8_mixes_195 : decode cX8_mixes 195 = .ok (.getfield 20, 3) := by decide +kernel
theorem dX8_mixes_198 : decode cX8_mixes 198 = .ok (.iload 4, 2) := by decide +kernel
theorem dX8_mixes_200 : decode cX8_mixes 200 = .ok (.iaload, 1) := by decide +kernel
theorem dX8_mixes_201 : decode cX8_mixes 201 = .ok (.istore 9, 2) := by decide +kernel
theorem dX8_mixes_203 : decode cX8_mixes 203 = .ok (.aload_n 0, 1) := by decide +kernel
theorem dX8_mixes_204 : decode cX8_mixes 204 = .ok (.getfield 20, 3) := by decide +kernel
theorem dX8_mixes_207 : decode cX8_mixes 207 = .ok (.iload_n 1, 1) := by decide +kernel
theorem dX8_mixes_208 : decode cX8_mixes 208 = .ok (.iaload, 1) := by decide +kernel
theorem dX8_mixes_209 : decode cX8_mixes 209 = .ok (.istore 10, 2) := by decide +kernel
theorem dX8_mixes_211 : decode cX8_mixes 211 = .ok (.aload_n 0, 1) := by decide +kernel
theorem dX8_mixes_212 : decode cX8_mixes 212 = .ok (.getfield 20, 3) := by decide +kernel
theorem dX8_mixes_215 : decode cX8_mixes 215 = .ok (.iload 7, 2) := by decide +kernel
theorem dX8_mixes_217 : decode cX8_mixes 217 = .ok (.iload 9, 2) := by decide +kernel
theorem dX8_mixes_219 : decode cX8_mixes 219 = .ok (.iastore, 1) := by decide +kernel
theorem dX8_mixes_220 : decode cX8_mixes 220 = .ok (.aload_n 0, 1) := by decide +kernel
theorem dX8_mixes_221 : decode cX8_mixes 221 = .ok (.getfield 23, 3) := by decide +kernel
theorem dX8_mixes_224 : decode cX8_mixes 224 = .ok (.iload 7, 2) := by decide +kernel
theorem dX8_mixes_226 : decode cX8_mixes 226 = .ok (.iload 10, 2) := by decide +kernel
theorem dX8_mixes_228 : decode cX8_mixes 228 = .ok (.iastore, 1) := by decide +kernel
theorem dX8_mixes_229 : decode cX8_mixes 229 = .ok (.aload_n 0, 1) := by decide +kernel
theorem dX8_mixes_230 : decode cX8_mixes 230 = .ok (.getfield 26, 3) := by decide +kernel
theorem dX8_mixes_233 : decode cX8_mixes 233 = .ok (.iload 6, 2) := by decide +kernel
theorem dX8_mixes_235 : decode cX8_mixes 235 = .ok (.ifCond .eq 7, 3) := by decide +kernel
theorem dX8_mixes_238 : decode cX8_mixes 238 = .ok (.iload_n 1, 1) := by decide +kernel
theorem dX8_mixes_239 : decode cX8_mixes 239 = .ok (.goto 5, 3) := by decide +kernel
theorem dX8_mixes_242 : decode cX8_mixes 242 = .ok (.iload 8, 2) := by decide +kernel
theorem dX8_mixes_244 : decode cX8_mixes 244 = .ok (.iconst 0, 1) := by decide +kernel
theorem dX8_mixes_245 : decode cX8_mixes 245 = .ok (.iastore, 1) := by decide +kernel
theorem dX8_mixes_246 : decode cX8_mixes 246 = .ok (.return_, 1) := by decide +kernel
theorem dX8_steps_0 : decode cX8_steps 0 = .ok (.aload_n 0, 1) := by decide +kernel
theorem dX8_steps_1 : decode cX8_steps 1 = .ok (.getfield 41, 3) := by decide +kernel
theorem dX8_steps_4 : decode cX8_steps 4 = .ok (.iload_n 1, 1) := by decide +kernel
theorem dX8_steps_5 : decode cX8_steps 5 = .ok (.iaload, 1) := by decide +kernel
theorem dX8_steps_6 : decode cX8_steps 6 = .ok (.istore 4, 2) := by decide +kernel
theorem dX8_steps_8 : decode cX8_steps 8 = .ok (.aload_n 0, 1) := by decide +kernel
theorem dX8_steps_9 : decode cX8_steps 9 = .ok (.getfield 41, 3) := by decide +kernel
theorem dX8_steps_12 : decode cX8_steps 12 = .ok (.iload_n 2, 1) := by decide +kernel
theorem dX8_steps_13 : decode cX8_steps 13 = .ok (.iaload, 1) := by decide +kernel
theorem dX8_steps_14 : decode cX8_steps 14 = .ok (.istore 5, 2) := by decide +kernel
theorem dX8_steps_16 : decode cX8_steps 16 = .ok (.bipush 8, 2) := by decide +kernel
theorem dX8_steps_18 : decode cX8_steps 18 = .ok (.iload_n 1, 1) := by decide +kernel
theorem dX8_steps_19 : decode cX8_steps 19 = .ok (.imul, 1) := by decide +kernel
theorem dX8_steps_20 : decode cX8_steps 20 = .ok (.iload_n 3, 1) := by decide +kernel
theorem dX8_steps_21 : decode cX8_steps 21 = .ok (.iadd, 1) := by decide +kernel
theorem dX8_steps_22 : decode cX8_steps 22 = .ok (.istore 6, 2) := by decide +kernel
theorem dX8_steps_24 : decode cX8_steps 24 = .ok (.aload_n 0, 1) := by decide +kernel
theorem dX8_steps_25 : decode cX8_steps 25 = .ok (.getfield 50, 3) := by decide +kernel
theorem dX8_steps_28 : decode cX8_steps 28 = .ok (.iload 6, 2) := by decide +kernel
theorem dX8_steps_30 : decode cX8_steps 30 = .ok (.baload, 1) := by decide +kernel
theorem dX8_steps_31 : decode cX8_steps 31 = .ok (.ifCond .eq 22, 3) := by decide +kernel
theorem dX8_steps_34 : decode cX8_steps 34 = .ok (.aload_n 0, 1) := by decide +kernel
theorem dX8_steps_35 : decode cX8_steps 35 = .ok (.getfield 60, 3) := by decide +kernel
theorem dX8_steps_38 : decode cX8_steps 38 = .ok (.iload 6, 2) := by decide +kernel
theorem dX8_steps_40 : decode cX8_steps 40 = .ok (.iaload, 1) := by decide +kernel
theorem dX8_steps_41 : decode cX8_steps 41 = .ok (.iconst 1, 1) := by decide +kernel
theorem dX8_steps_42 : decode cX8_steps 42 = .ok (.isub, 1) := by decide +kernel
theorem dX8_steps_43 : decode cX8_steps 43 = .ok (.aload_n 0, 1) := by decide +kernel
theorem dX8_steps_44 : decode cX8_steps 44 = .ok (.getfield 54, 3) := by decide +kernel
theorem dX8_steps_47 : decode cX8_steps 47 = .ok (.iload 6, 2) := by decide +kernel
theorem dX8_steps_49 : decode cX8_steps 49 = .ok (.iaload, 1) := by decide +kernel
theorem dX8_steps_50 : decode cX8_steps 50 = .ok (.if_icmp .ge 5, 3) := by decide +kernel
theorem dX8_steps_53 : decode cX8_steps 53 = .ok (.iconst 1, 1) := by decide +kernel
theorem dX8_steps_54 : decode cX8_steps 54 = .ok (.ireturn, 1) := by decide +kernel
theorem dX8_steps_55 : decode cX8_steps 55 = .ok (.aload_n 0, 1) := by decide +kernel
theorem dX8_steps_56 : decode cX8_steps 56 = .ok (.iload 5, 2) := by decide +kernel
theorem dX8_steps_58 : decode cX8_steps 58 = .ok (.iconst 1, 1) := by decide +kernel
theorem dX8_steps_59 : decode cX8_steps 59 = .ok (.isub, 1) := by decide +kernel
theorem dX8_steps_60 : decode cX8_steps 60 = .ok (.iload_n 2, 1) := by decide +kernel
theorem dX8_steps_61 : decode cX8_steps 61 = .ok (.invokevirtual 162, 3) := by decide +kernel
theorem dX8_steps_64 : decode cX8_steps 64 = .ok (.ifCond .eq 5, 3) := by decide +kernel
theorem dX8_steps_67 : decode cX8_steps 67 = .ok (.iconst 2, 1) := by decide +kernel
theorem dX8_steps_68 : decode cX8_steps 68 = .ok (.ireturn, 1) := by decide +kernel
theorem dX8_steps_69 : decode cX8_steps 69 = .ok (.iload 5, 2) := by decide +kernel
theorem dX8_steps_71 : decode cX8_steps 71 = .ok (.iconst 1, 1) := by decide +kernel
theorem dX8_steps_72 : decode cX8_steps 72 = .ok (.isub, 1) := by decide +kernel
theorem dX8_steps_73 : decode cX8_steps 73 = .ok (.istore 7, 2) := by decide +kernel
theorem dX8_steps_75 : decode cX8_steps 75 = .ok (.iload 7, 2) := by decide +kernel
theorem dX8_steps_77 : decode cX8_steps 77 = .ok (.iload 4, 2) := by decide +kernel
theorem dX8_steps_79 : decode cX8_steps 79 = .ok (.if_icmp .le 73, 3) := by decide +kernel
theorem dX8_steps_82 : decode cX8_steps 82 = .ok (.aload_n 0, 1) := by decide +kernel
theorem dX8_steps_83 : decode cX8_steps 83 = .ok (.getfield 16, 3) := by decide +kernel
theorem dX8_steps_86 : decode cX8_steps 86 = .ok (.iload 7, 2) := by decide +kernel
theorem dX8_steps_88 : decode cX8_steps 88 = .ok (.aload_n 0, 1) := by decide +kernel
theorem dX8_steps_89 : decode cX8_steps 89 = .ok (.getfield 16, 3) := by decide +kernel
theorem dX8_steps_92 : decode cX8_steps 92 = .ok (.iload 7, 2) := by decide +kernel
theorem dX8_steps_94 : decode cX8_steps 94 = .ok (.iconst 1, 1) := by decide +kernel
theorem dX8_steps_95 : decode cX8_steps 95 = .ok (.isub, 1) := by decide +kernel
theorem dX8_steps_96 : decode cX8_steps 96 = .ok (.iaload, 1) := by decide +kernel
theorem dX8_steps_97 : decode cX8_steps 97 = .ok (.iastore, 1) := by decide +kernel
theorem dX8_steps_98 : decode cX8_steps 98 = .ok (.aload_n 0, 1) := by decide +kernel
theorem dX8_steps_99 : decode cX8_steps 99 = .ok (.getfield 20, 3) := by decide +kernel
theorem dX8_steps_102 : decode cX8_steps 102 = .ok (.iload 7, 2) := by decide +kernel
theorem dX8_steps_104 : decode cX8_steps 104 = .ok (.aload_n 0, 1) := by decide +kernel
theorem dX8_steps_105 : decode cX8_steps 105 = .ok (.getfield 20, 3) := by decide +kernel
theorem dX8_steps_108 : decode cX8_steps 108 = .ok (.iload 7, 2) := by decide +kernel
theorem dX8_steps_110 : decode cX8_steps 110 = .ok (.iconst 1, 1) := by decide +kernel
theorem dX8_steps_111 : decode cX8_steps 111 = .ok (.isub, 1) := by decide +kernel
theorem dX8_steps_112 : decode cX8_steps 112 = .ok (.iaload, 1) := by decide +kernel
theorem dX8_steps_113 : decode cX8_steps 113 = .ok (.iastore, 1) := by decide +kernel
theorem dX8_steps_114 : decode cX8_steps 114 = .ok (.aload_n 0, 1) := by decide +kernel
theorem dX8_steps_115 : decode cX8_steps 115 = .ok (.getfield 23, 3) := by decide +kernel
theorem dX8_steps_118 : decode cX8_steps 118 = .ok (.iload 7, 2) := by decide +kernel
theorem dX8_steps_120 : decode cX8_steps 120 = .ok (.aload_n 0, 1) := by decide +kernel
theorem dX8_steps_121 : decode cX8_steps 121 = .ok (.getfield 23, 3) := by decide +kernel
theorem dX8_steps_124 : decode cX8_steps 124 = .ok (.iload 7, 2) := by decide +kernel
theorem dX8_steps_126 : decode cX8_steps 126 = .ok (.iconst 1, 1) := by decide +kernel
theorem dX8_steps_127 : decode cX8_steps 127 = .ok (.isub, 1) := by decide +kernel
theorem dX8_steps_128 : decode cX8_steps 128 = .ok (.iaload, 1) := by decide +kernel
theorem dX8_steps_129 : decode cX8_steps 129 = .ok (.iastore, 1) := by decide +kernel
theorem dX8_steps_130 : decode cX8_steps 130 = .ok (.aload_n 0, 1) := by decide +kernel
theorem dX8_steps_131 : decode cX8_steps 131 = .ok (.getfield 26, 3) := by decide +kernel
theorem dX8_steps_134 : decode cX8_steps 134 = .ok (.iload 7, 2) := by decide +kernel
theorem dX8_steps_136 : decode cX8_steps 136 = .ok (.aload_n 0, 1) := by decide +kernel
theorem dX8_steps_137 : decode cX8_steps 137 = .ok (.getfield 26, 3) := by decide +kernel
theorem dX8_steps_140 : decode cX8_steps 140 = .ok (.iload 7, 2) := by decide +kernel
theorem dX8_steps_142 : decode cX8_steps 142 = .ok (.iconst 1, 1) := by decide +kernel
theorem dX8_steps_143 : decode cX8_steps 143 = .ok (.isub, 1) := by decide +kernel
theorem dX8_steps_144 : decode cX8_steps 144 = .ok (.iaload, 1) := by decide +kernel
theorem dX8_steps_145 : decode cX8_steps 145 = .ok (.iastore, 1) := by decide +kernel
theorem dX8_steps_146 : decode cX8_steps 146 = .ok (.iinc 7 (-1), 3) := by decide +kernel
theorem dX8_steps_149 : decode cX8_steps 149 = .ok (.goto (-74), 3) := by decide +kernel
theorem dX8_steps_152 : decode cX8_steps 152 = .ok (.aload_n 0, 1) := by decide +kernel
theorem dX8_steps_153 : decode cX8_steps 153 = .ok (.getfield 16, 3) := by decide +kernel
theorem dX8_steps_156 : decode cX8_steps 156 = .ok (.iload 4, 2) := by decide +kernel
theorem dX8_steps_158 : decode cX8_steps 158 = .ok (.aload_n 0, 1) := by decide +kernel
theorem dX8_steps_159 : decode cX8_steps 159 = .ok (.getfield 29, 3) := by decide +kernel
theorem dX8_steps_162 : decode cX8_steps 162 = .ok (.iconst 1, 1) := by decide +kernel
theorem dX8_steps_163 : decode cX8_steps 163 = .ok (.isub, 1) := by decide +kernel
theorem dX8_steps_164 : decode cX8_steps 164 = .ok (.iastore, 1) := by decide +kernel
theorem dX8_steps_165 : decode cX8_steps 165 = .ok (.aload_n 0, 1) := by decide +kernel
theorem dX8_steps_166 : decode cX8_steps 166 = .ok (.getfield 20, 3) := by decide +kernel
theorem dX8_steps_169 : decode cX8_steps 169 = .ok (.iload 4, 2) := by decide +kernel
theorem dX8_steps_171 : decode cX8_steps 171 = .ok (.iload_n 3, 1) := by decide +kernel
theorem dX8_steps_172 : decode cX8_steps 172 = .ok (.iastore, 1) := by decide +kernel
theorem dX8_steps_173 : decode cX8_steps 173 = .ok (.aload_n 0, 1) := by decide +kernel
theorem dX8_steps_174 : decode cX8_steps 174 = .ok (.getfield 23, 3) := by decide +kernel
theorem dX8_steps_177 : decode cX8_steps 177 = .ok (.iload 4, 2) := by decide +kernel
theorem dX8_steps_179 : decode cX8_steps 179 = .ok (.iconst (-1), 1) := by decide +kernel
theorem dX8_steps_180 : decode cX8_steps 180 = .ok (.iastore, 1) := by decide +kernel
theorem dX8_steps_181 : decode cX8_steps 181 = .ok (.aload_n 0, 1) := by decide +kernel
theorem dX8_steps_182 : decode cX8_steps 182 = .ok (.getfield 26, 3) := by decide +kernel
theorem dX8_steps_185 : decode cX8_steps 185 = .ok (.iload 4, 2) := by decide +kernel
theorem dX8_steps_187 : decode cX8_steps 187 = .ok (.iconst 0, 1) := by decide +kernel
theorem dX8_steps_188 : decode cX8_steps 188 = .ok (.iastore, 1) := by decide +kernel
theorem dX8_steps_189 : decode cX8_steps 189 = .ok (.aload_n 0, 1) := by decide +kernel
theorem dX8_steps_190 : decode cX8_steps 190 = .ok (.getfield 60, 3) := by decide +kernel
theorem dX8_steps_193 : decode cX8_steps 193 = .ok (.iload 6, 2) := by decide +kernel
theorem dX8_steps_195 : decode cX8_steps 195 = .ok (.dup2, 1) := by decide +kernel
theorem dX8_steps_196 : decode cX8_steps 196 = .ok (.iaload, 1) := by decide +kernel
theorem dX8_steps_197 : decode cX8_steps 197 = .ok (.iconst 1, 1) := by decide +kernel
theorem dX8_steps_198 : decode cX8_steps 198 = .ok (.isub, 1) := by decide +kernel
theorem dX8_steps_199 : decode cX8_steps 199 = .ok (.iastore, 1) := by decide +kernel
theorem dX8_steps_200 : decode cX8_steps 200 = .ok (.aload_n 0, 1) := by decide +kernel
theorem dX8_steps_201 : decode cX8_steps 201 = .ok (.getfield 63, 3) := by decide +kernel
theorem dX8_steps_204 : decode cX8_steps 204 = .ok (.iload 6, 2) := by decide +kernel
theorem dX8_steps_206 : decode cX8_steps 206 = .ok (.iaload, 1) := by decide +kernel
theorem dX8_steps_207 : decode cX8_steps 207 = .ok (.aload_n 0, 1) := by decide +kernel
theorem dX8_steps_208 : decode cX8_steps 208 = .ok (.getfield 60, 3) := by decide +kernel
theorem dX8_steps_211 : decode cX8_steps 211 = .ok (.iload 6, 2) := by decide +kernel
theorem dX8_steps_213 : decode cX8_steps 213 = .ok (.iaload, 1) := by decide +kernel
theorem dX8_steps_214 : decode cX8_steps 214 = .ok (.if_icmp .le 17, 3) := by decide +kernel
theorem dX8_steps_217 : decode cX8_steps 217 = .ok (.aload_n 0, 1) := by decide +kernel
theorem dX8_steps_218 : decode cX8_steps 218 = .ok (.getfield 63, 3) := by decide +kernel
theorem dX8_steps_221 : decode cX8_steps 221 = .ok (.iload 6, 2) := by decide +kernel
theorem dX8_steps_223 : decode cX8_steps 223 = .ok (.aload_n 0, 1) := by decide +kernel
theorem dX8_steps_224 : decode cX8_steps 224 = .ok (.getfield 60, 3) := by decide +kernel
theorem dX8_steps_227 : decode cX8_steps 227 = .ok (.iload 6, 2) := by decide +kernel
theorem dX8_steps_229 : decode cX8_steps 229 = .ok (.iaload, 1) := by decide +kernel
theorem dX8_steps_230 : decode cX8_steps 230 = .ok (.iastore, 1) := by decide +kernel
theorem dX8_steps_231 : decode cX8_steps 231 = .ok (.iload 5, 2) := by decide +kernel
theorem dX8_steps_233 : decode cX8_steps 233 = .ok (.iconst 1, 1) := by decide +kernel
theorem dX8_steps_234 : decode cX8_steps 234 = .ok (.isub, 1) := by decide +kernel
theorem dX8_steps_235 : decode cX8_steps 235 = .ok (.istore 7, 2) := by decide +kernel
theorem dX8_steps_237 : decode cX8_steps 237 = .ok (.iload 7, 2) := by decide +kernel
theorem dX8_steps_239 : decode cX8_steps 239 = .ok (.iload 4, 2) := by decide +kernel
theorem dX8_steps_241 : decode cX8_steps 241 = .ok (.if_icmp .lt 19, 3) := by decide +kernel
theorem dX8_steps_244 : decode cX8_steps 244 = .ok (.aload_n 0, 1) := by decide +kernel
theorem dX8_steps_245 : decode cX8_steps 245 = .ok (.iload 7, 2) := by decide +kernel
theorem dX8_steps_247 : decode cX8_steps 247 = .ok (.iload 4, 2) := by decide +kernel
theorem dX8_steps_249 : decode cX8_steps 249 = .ok (.iload 5, 2) := by decide +kernel
theorem dX8_steps_251 : decode cX8_steps 251 = .ok (.invokevirtual 165, 3) := by decide +kernel
theorem dX8_steps_254 : decode cX8_steps 254 = .ok (.iinc 7 (-1), 3) := by decide +kernel
theorem dX8_steps_257 : decode cX8_steps 257 = .ok (.goto (-20), 3) := by decide +kernel
theorem dX8_steps_260 : decode cX8_steps 260 = .ok (.aload_n 0, 1) := by decide +kernel
theorem dX8_steps_261 : decode cX8_steps 261 = .ok (.iload 4, 2) := by decide +kernel
theorem dX8_steps_263 : decode cX8_steps 263 = .ok (.invokevirtual 169, 3) := by decide +kernel
theorem dX8_steps_266 : decode cX8_steps 266 = .ok (.ifCond .ne 14, 3) := by decide +kernel
theorem dX8_steps_269 : decode cX8_steps 269 = .ok (.aload_n 0, 1) := by decide +kernel
theorem dX8_steps_270 : decode cX8_steps 270 = .ok (.iload 5, 2) := by decide +kernel
theorem dX8_steps_272 : decode cX8_steps 272 = .ok (.iconst 1, 1) := by decide +kernel
theorem dX8_steps_273 : decode cX8_steps 273 = .ok (.isub, 1) := by decide +kernel
theorem dX8_steps_274 : decode cX8_steps 274 = .ok (.invokevirtual 169, 3) := by decide +kernel
theorem dX8_steps_277 : decode cX8_steps 277 = .ok (.ifCond .eq 7, 3) := by decide +kernel
theorem dX8_steps_280 : decode cX8_steps 280 = .ok (.iconst 3, 1) := by decide +kernel
theorem dX8_steps_281 : decode cX8_steps 281 = .ok (.goto 4, 3) := by decide +kernel
theorem dX8_steps_284 : decode cX8_steps 284 = .ok (.iconst 0, 1) := by decide +kernel
theorem dX8_steps_285 : decode cX8_steps 285 = .ok (.ireturn, 1) := by decide +kernel
theorem dX8_ends_0 : decode cX8_ends 0 = .ok (.aload_n 0, 1) := by decide +kernel
theorem dX8_ends_1 : decode cX8_ends 1 = .ok (.getfield 44, 3) := by decide +kernel
theorem dX8_ends_4 : decode cX8_ends 4 = .ok (.iload_n 1, 1) := by decide +kernel
theorem dX8_ends_5 : decode cX8_ends 5 = .ok (.iaload, 1) := by decide +kernel
theorem dX8_ends_6 : decode cX8_ends 6 = .ok (.aload_n 0, 1) := by decide +kernel
theorem dX8_ends_7 : decode cX8_ends 7 = .ok (.getfield 44, 3) := by decide +kernel
theorem dX8_ends_10 : decode cX8_ends 10 = .ok (.iload_n 2, 1) := by decide +kernel
theorem dX8_ends_11 : decode cX8_ends 11 = .ok (.iaload, 1) := by decide +kernel
theorem dX8_ends_12 : decode cX8_ends 12 = .ok (.if_icmp .ge 12, 3) := by decide +kernel
theorem dX8_ends_15 : decode cX8_ends 15 = .ok (.aload_n 0, 1) := by decide +kernel
theorem dX8_ends_16 : decode cX8_ends 16 = .ok (.getfield 44, 3) := by decide +kernel
theorem dX8_ends_19 : decode cX8_ends 19 = .ok (.iload_n 1, 1) := by decide +kernel
theorem dX8_ends_20 : decode cX8_ends 20 = .ok (.iaload, 1) := by decide +kernel
theorem dX8_ends_21 : decode cX8_ends 21 = .ok (.goto 9, 3) := by decide +kernel
theorem dX8_ends_24 : decode cX8_ends 24 = .ok (.aload_n 0, 1) := by decide +kernel
theorem dX8_ends_25 : decode cX8_ends 25 = .ok (.getfield 44, 3) := by decide +kernel
theorem dX8_ends_28 : decode cX8_ends 28 = .ok (.iload_n 2, 1) := by decide +kernel
theorem dX8_ends_29 : decode cX8_ends 29 = .ok (.iaload, 1) := by decide +kernel
theorem dX8_ends_30 : decode cX8_ends 30 = .ok (.istore 4, 2) := by decide +kernel
theorem dX8_ends_32 : decode cX8_ends 32 = .ok (.iload_n 3, 1) := by decide +kernel
theorem dX8_ends_33 : decode cX8_ends 33 = .ok (.istore 5, 2) := by decide +kernel
theorem dX8_ends_35 : decode cX8_ends 35 = .ok (.iload 5, 2) := by decide +kernel
theorem dX8_ends_37 : decode cX8_ends 37 = .ok (.ifCond .le 44, 3) := by decide +kernel
theorem dX8_ends_40 : decode cX8_ends 40 = .ok (.aload_n 0, 1) := by decide +kernel
theorem dX8_ends_41 : decode cX8_ends 41 = .ok (.dup, 1) := by decide +kernel
theorem dX8_ends_42 : decode cX8_ends 42 = .ok (.getfield 117, 3) := by decide +kernel
theorem dX8_ends_45 : decode cX8_ends 45 = .ok (.aload_n 0, 1) := by decide +kernel
theorem dX8_ends_46 : decode cX8_ends 46 = .ok (.getfield 78, 3) := by decide +kernel
theorem dX8_ends_49 : decode cX8_ends 49 = .ok (.aload_n 0, 1) := by decide +kernel
theorem dX8_ends_50 : decode cX8_ends 50 = .ok (.getfield 114, 3) := by decide +kernel
theorem dX8_ends_53 : decode cX8_ends 53 = .ok (.bipush 24, 2) := by decide +kernel
theorem dX8_ends_55 : decode cX8_ends 55 = .ok (.irem, 1) := by decide +kernel
theorem dX8_ends_56 : decode cX8_ends 56 = .ok (.iaload, 1) := by decide +kernel
theorem dX8_ends_57 : decode cX8_ends 57 = .ok (.iadd, 1) := by decide +kernel
theorem dX8_ends_58 : decode cX8_ends 58 = .ok (.putfield 117, 3) := by decide +kernel
theorem dX8_ends_61 : decode cX8_ends 61 = .ok (.aload_n 0, 1) := by decide +kernel
theorem dX8_ends_62 : decode cX8_ends 62 = .ok (.dup, 1) := by decide +kernel
theorem dX8_ends_63 : decode cX8_ends 63 = .ok (.getfield 114, 3) := by decide +kernel
theorem dX8_ends_66 : decode cX8_ends 66 = .ok (.iconst 1, 1) := by decide +kernel
theorem dX8_ends_67 : decode cX8_ends 67 = .ok (.iadd, 1) := by decide +kernel
theorem dX8_ends_68 : decode cX8_ends 68 = .ok (.putfield 114, 3) := by decide +kernel
theorem dX8_ends_71 : decode cX8_ends 71 = .ok (.iload 5, 2) := by decide +kernel
theorem dX8_ends_73 : decode cX8_ends 73 = .ok (.iload 4, 2) := by decide +kernel
theorem dX8_ends_75 : decode cX8_ends 75 = .ok (.isub, 1) := by decide +kernel
theorem dX8_ends_76 : decode cX8_ends 76 = .ok (.istore 5, 2) := by decide +kernel
theorem dX8_ends_78 : decode cX8_ends 78 = .ok (.goto (-43), 3) := by decide +kernel
theorem dX8_ends_81 : decode cX8_ends 81 = .ok (.iconst 0, 1) := by decide +kernel
theorem dX8_ends_82 : decode cX8_ends 82 = .ok (.istore 5, 2) := by decide +kernel
theorem dX8_ends_84 : decode cX8_ends 84 = .ok (.iload 5, 2) := by decide +kernel
theorem dX8_ends_86 : decode cX8_ends 86 = .ok (.aload_n 0, 1) := by decide +kernel
theorem dX8_ends_87 : decode cX8_ends 87 = .ok (.getfield 111, 3) := by decide +kernel
theorem dX8_ends_90 : decode cX8_ends 90 = .ok (.if_icmp .ge 61, 3) := by decide +kernel
theorem dX8_ends_93 : decode cX8_ends 93 = .ok (.aload_n 0, 1) := by decide +kernel
theorem dX8_ends_94 : decode cX8_ends 94 = .ok (.getfield 93, 3) := by decide +kernel
theorem dX8_ends_97 : decode cX8_ends 97 = .ok (.iload 5, 2) := by decide +kernel
theorem dX8_ends_99 : decode cX8_ends 99 = .ok (.iaload, 1) := by decide +kernel
theorem dX8_ends_100 : decode cX8_ends 100 = .ok (.iconst (-1), 1) := by decide +kernel
theorem dX8_ends_101 : decode cX8_ends 101 = .ok (.if_icmp .ne 44, 3) := by decide +kernel
theorem dX8_ends_104 : decode cX8_ends 104 = .ok (.aload_n 0, 1) := by decide +kernel
theorem dX8_ends_105 : decode cX8_ends 105 = .ok (.getfield 66, 3) := by decide +kernel
theorem dX8_ends_108 : decode cX8_ends 108 = .ok (.aload_n 0, 1) := by decide +kernel
theorem dX8_ends_109 : decode cX8_ends 109 = .ok (.getfield 81, 3) := by decide +kernel
theorem dX8_ends_112 : decode cX8_ends 112 = .ok (.iload 5, 2) := by decide +kernel
theorem dX8_ends_114 : decode cX8_ends 114 = .ok (.iaload, 1) := by decide +kernel
theorem dX8_ends_115 : decode cX8_ends 115 = .ok (.iaload, 1) := by decide +kernel
theorem dX8_ends_116 : decode cX8_ends 116 = .ok (.aload_n 0, 1) := by decide +kernel
theorem dX8_ends_117 : decode cX8_ends 117 = .ok (.getfield 90, 3) := by decide +kernel
theorem dX8_ends_120 : decode cX8_ends 120 = .ok (.iload 5, 2) := by decide +kernel
theorem dX8_ends_122 : decode cX8_ends 122 = .ok (.iaload, 1) := by decide +kernel
theorem dX8_ends_123 : decode cX8_ends 123 = .ok (.isub, 1) := by decide +kernel
theorem dX8_ends_124 : decode cX8_ends 124 = .ok (.aload_n 0, 1) := by decide +kernel
theorem dX8_ends_125 : decode cX8_ends 125 = .ok (.getfield 84, 3) := by decide +kernel
theorem dX8_ends_128 : decode cX8_ends 128 = .ok (.iload 5, 2) := by decide +kernel
theorem dX8_ends_130 : decode cX8_ends 130 = .ok (.iaload, 1) := by decide +kernel
theorem dX8_ends_131 : decode cX8_ends 131 = .ok (.if_icmp .lt 14, 3) := by decide +kernel
theorem dX8_ends_134 : decode cX8_ends 134 = .ok (.aload_n 0, 1) := by decide +kernel
theorem dX8_ends_135 : decode cX8_ends 135 = .ok (.getfield 93, 3) := by decide +kernel
theorem dX8_ends_138 : decode cX8_ends 138 = .ok (.iload 5, 2) := by decide +kernel
theorem dX8_ends_140 : decode cX8_ends 140 = .ok (.aload_n 0, 1) := by decide +kernel
theorem dX8_ends_141 : decode cX8_ends 141 = .ok (.getfield 114, 3) := by decide +kernel
theorem dX8_ends_144 : decode cX8_ends 144 = .ok (.iastore, 1) := by decide +kernel
theorem dX8_ends_145 : decode cX8_ends 145 = .ok (.iinc 5 1, 3) := by decide +kernel
theorem dX8_ends_148 : decode cX8_ends 148 = .ok (.goto (-64), 3) := by decide +kernel
theorem dX8_ends_151 : decode cX8_ends 151 = .ok (.return_, 1) := by decide +kernel
theorem dX8_tries_0 : decode cX8_tries 0 = .ok (.aload_n 0, 1) := by decide +kernel
theorem dX8_tries_1 : decode cX8_tries 1 = .ok (.iload_n 1, 1) := by decide +kernel
theorem dX8_tries_2 : decode cX8_tries 2 = .ok (.invokevirtual 123, 3) := by decide +kernel
theorem dX8_tries_5 : decode cX8_tries 5 = .ok (.ifCond .eq 18, 3) := by decide +kernel
theorem dX8_tries_8 : decode cX8_tries 8 = .ok (.aload_n 0, 1) := by decide +kernel
theorem dX8_tries_9 : decode cX8_tries 9 = .ok (.iload_n 2, 1) := by decide +kernel
theorem dX8_tries_10 : decode cX8_tries 10 = .ok (.invokevirtual 123, 3) := by decide +kernel
theorem dX8_tries_13 : decode cX8_tries 13 = .ok (.ifCond .eq 10, 3) := by decide +kernel
theorem dX8_tries_16 : decode cX8_tries 16 = .ok (.iload_n 3, 1) := by decide +kernel
theorem dX8_tries_17 : decode cX8_tries 17 = .ok (.invokestatic 127, 3) := by decide +kernel
theorem dX8_tries_20 : decode cX8_tries 20 = .ok (.ifCond .ne 5, 3) := by decide +kernel
theorem dX8_tries_23 : decode cX8_tries 23 = .ok (.iconst (-1), 1) := by decide +kernel
theorem dX8_tries_24 : decode cX8_tries 24 = .ok (.ireturn, 1) := by decide +kernel
theorem dX8_tries_25 : decode cX8_tries 25 = .ok (.aload_n 0, 1) := by decide +kernel
theorem dX8_tries_26 : decode cX8_tries 26 = .ok (.getfield 41, 3) := by decide +kernel
theorem dX8_tries_29 : decode cX8_tries 29 = .ok (.iload_n 2, 1) := by decide +kernel
theorem dX8_tries_30 : decode cX8_tries 30 = .ok (.iaload, 1) := by decide +kernel
theorem dX8_tries_31 : decode cX8_tries 31 = .ok (.aload_n 0, 1) := by decide +kernel
theorem dX8_tries_32 : decode cX8_tries 32 = .ok (.getfield 41, 3) := by decide +kernel
theorem dX8_tries_35 : decode cX8_tries 35 = .ok (.iload_n 1, 1) := by decide +kernel
theorem dX8_tries_36 : decode cX8_tries 36 = .ok (.iaload, 1) := by decide +kernel
theorem dX8_tries_37 : decode cX8_tries 37 = .ok (.if_icmp .le 14, 3) := by decide +kernel
theorem dX8_tries_40 : decode cX8_tries 40 = .ok (.iload 4, 2) := by decide +kernel
theorem dX8_tries_42 : decode cX8_tries 42 = .ok (.iconst 1, 1) := by decide +kernel
theorem dX8_tries_43 : decode cX8_tries 43 = .ok (.bipush 60, 2) := by decide +kernel
theorem dX8_tries_45 : decode cX8_tries 45 = .ok (.invokestatic 104, 3) := by decide +kernel
theorem dX8_tries_48 : decode cX8_tries 48 = .ok (.ifCond .ne 6, 3) := by decide +kernel
theorem dX8_tries_51 : decode cX8_tries 51 = .ok (.bipush (-2), 2) := by decide +kernel
theorem dX8_tries_53 : decode cX8_tries 53 = .ok (.ireturn, 1) := by decide +kernel
theorem dX8_tries_54 : decode cX8_tries 54 = .ok (.aload_n 0, 1) := by decide +kernel
theorem dX8_tries_55 : decode cX8_tries 55 = .ok (.getfield 29, 3) := by decide +kernel
theorem dX8_tries_58 : decode cX8_tries 58 = .ok (.sipush 200, 3) := by decide +kernel
theorem dX8_tries_61 : decode cX8_tries 61 = .ok (.if_icmp .ne 6, 3) := by decide +kernel
theorem dX8_tries_64 : decode cX8_tries 64 = .ok (.bipush (-4), 2) := by decide +kernel
theorem dX8_tries_66 : decode cX8_tries 66 = .ok (.ireturn, 1) := by decide +kernel
theorem dX8_tries_67 : decode cX8_tries 67 = .ok (.aload_n 0, 1) := by decide +kernel
theorem dX8_tries_68 : decode cX8_tries 68 = .ok (.invokevirtual 172, 3) := by decide +kernel
theorem dX8_tries_71 : decode cX8_tries 71 = .ok (.aload_n 0, 1) := by decide +kernel
theorem dX8_tries_72 : decode cX8_tries 72 = .ok (.getfield 32, 3) := by decide +kernel
theorem dX8_tries_75 : decode cX8_tries 75 = .ok (.aload_n 0, 1) := by decide +kernel
theorem dX8_tries_76 : decode cX8_tries 76 = .ok (.getfield 29, 3) := by decide +kernel
theorem dX8_tries_79 : decode cX8_tries 79 = .ok (.iload_n 3, 1) := by decide +kernel
theorem dX8_tries_80 : decode cX8_tries 80 = .ok (.iastore, 1) := by decide +kernel
theorem dX8_tries_81 : decode cX8_tries 81 = .ok (.aload_n 0, 1) := by decide +kernel
theorem dX8_tries_82 : decode cX8_tries 82 = .ok (.getfield 35, 3) := by decide +kernel
theorem dX8_tries_85 : decode cX8_tries 85 = .ok (.aload_n 0, 1) := by decide +kernel
theorem dX8_tries_86 : decode cX8_tries 86 = .ok (.getfield 29, 3) := by decide +kernel
theorem dX8_tries_89 : decode cX8_tries 89 = .ok (.iload_n 1, 1) := by decide +kernel
theorem dX8_tries_90 : decode cX8_tries 90 = .ok (.iastore, 1) := by decide +kernel
theorem dX8_tries_91 : decode cX8_tries 91 = .ok (.aload_n 0, 1) := by decide +kernel
theorem dX8_tries_92 : decode cX8_tries 92 = .ok (.getfield 38, 3) := by decide +kernel
theorem dX8_tries_95 : decode cX8_tries 95 = .ok (.aload_n 0, 1) := by decide +kernel
theorem dX8_tries_96 : decode cX8_tries 96 = .ok (.getfield 29, 3) := by decide +kernel
theorem dX8_tries_99 : decode cX8_tries 99 = .ok (.iconst 0, 1) := by decide +kernel
theorem dX8_tries_100 : decode cX8_tries 100 = .ok (.iastore, 1) := by decide +kernel
theorem dX8_tries_101 : decode cX8_tries 101 = .ok (.aload_n 0, 1) := by decide +kernel
theorem dX8_tries_102 : decode cX8_tries 102 = .ok (.dup, 1) := by decide +kernel
theorem dX8_tries_103 : decode cX8_tries 103 = .ok (.getfield 29, 3) := by decide +kernel
theorem dX8_tries_106 : decode cX8_tries 106 = .ok (.iconst 1, 1) := by decide +kernel
theorem dX8_tries_107 : decode cX8_tries 107 = .ok (.iadd, 1) := by decide +kernel
theorem dX8_tries_108 : decode cX8_tries 108 = .ok (.putfield 29, 3) := by decide +kernel
theorem dX8_tries_111 : decode cX8_tries 111 = .ok (.iconst 0, 1) := by decide +kernel
theorem dX8_tries_112 : decode cX8_tries 112 = .ok (.istore 5, 2) := by decide +kernel
theorem dX8_tries_114 : decode cX8_tries 114 = .ok (.iload 5, 2) := by decide +kernel
theorem dX8_tries_116 : decode cX8_tries 116 = .ok (.iload 4, 2) := by decide +kernel
theorem dX8_tries_118 : decode cX8_tries 118 = .ok (.if_icmp .ge 33, 3) := by decide +kernel
theorem dX8_tries_121 : decode cX8_tries 121 = .ok (.aload_n 0, 1) := by decide +kernel
theorem dX8_tries_122 : decode cX8_tries 122 = .ok (.iload_n 1, 1) := by decide +kernel
theorem dX8_tries_123 : decode cX8_tries 123 = .ok (.iload_n 2, 1) := by decide +kernel
theorem dX8_tries_124 : decode cX8_tries 124 = .ok (.iload_n 3, 1) := by decide +kernel
theorem dX8_tries_125 : decode cX8_tries 125 = .ok (.invokevirtual 175, 3) := by decide +kernel
theorem dX8_tries_128 : decode cX8_tries 128 = .ok (.istore 6, 2) := by decide +kernel
theorem dX8_tries_130 : decode cX8_tries 130 = .ok (.iload 6, 2) := by decide +kernel
theorem dX8_tries_132 : decode cX8_tries 132 = .ok (.ifCond .le 13, 3) := by decide +kernel
theorem dX8_tries_135 : decode cX8_tries 135 = .ok (.aload_n 0, 1) := by decide +kernel
theorem dX8_tries_136 : decode cX8_tries 136 = .ok (.invokevirtual 179, 3) := by decide +kernel
theorem dX8_tries_139 : decode cX8_tries 139 = .ok (.bipush (-10), 2) := by decide +kernel
theorem dX8_tries_141 : decode cX8_tries 141 = .ok (.iload 6, 2) := by decide +kernel
theorem dX8_tries_143 : decode cX8_tries 143 = .ok (.isub, 1) := by decide +kernel
theorem dX8_tries_144 : decode cX8_tries 144 = .ok (.ireturn, 1) := by decide +kernel
theorem dX8_tries_145 : decode cX8_tries 145 = .ok (.iinc 5 1, 3) := by decide +kernel
theorem dX8_tries_148 : decode cX8_tries 148 = .ok (.goto (-34), 3) := by decide +kernel
theorem dX8_tries_151 : decode cX8_tries 151 = .ok (.aload_n 0, 1) := by decide +kernel
theorem dX8_tries_152 : decode cX8_tries 152 = .ok (.iload_n 1, 1) := by decide +kernel
theorem dX8_tries_153 : decode cX8_tries 153 = .ok (.iload_n 2, 1) := by decide +kernel
theorem dX8_tries_154 : decode cX8_tries 154 = .ok (.iload 4, 2) := by decide +kernel
theorem dX8_tries_156 : decode cX8_tries 156 = .ok (.invokevirtual 182, 3) := by decide +kernel
theorem dX8_tries_159 : decode cX8_tries 159 = .ok (.aload_n 0, 1) := by decide +kernel
theorem dX8_tries_160 : decode cX8_tries 160 = .ok (.getfield 29, 3) := by decide +kernel
theorem dX8_tries_163 : decode cX8_tries 163 = .ok (.iconst 1, 1) := by decide +kernel
theorem dX8_tries_164 : decode cX8_tries 164 = .ok (.isub, 1) := by decide +kernel
theorem dX8_tries_165 : decode cX8_tries 165 = .ok (.ireturn, 1) := by decide +kernel
theorem dX8_push_0 : decode cX8_push 0 = .ok (.aload_n 0, 1) := by decide +kernel
theorem dX8_push_1 : decode cX8_push 1 = .ok (.iload_n 1, 1) := by decide +kernel
theorem dX8_push_2 : decode cX8_push 2 = .ok (.iload_n 2, 1) := by decide +kernel
theorem dX8_push_3 : decode cX8_push 3 = .ok (.iload_n 3, 1) := by decide +kernel
theorem dX8_push_4 : decode cX8_push 4 = .ok (.iload 4, 2) := by decide +kernel
theorem dX8_push_6 : decode cX8_push 6 = .ok (.invokevirtual 185, 3) := by decide +kernel
theorem dX8_push_9 : decode cX8_push 9 = .ok (.istore 5, 2) := by decide +kernel
theorem dX8_push_11 : decode cX8_push 11 = .ok (.aload_n 0, 1) := by decide +kernel
theorem dX8_push_12 : decode cX8_push 12 = .ok (.dup, 1) := by decide +kernel
theorem dX8_push_13 : decode cX8_push 13 = .ok (.getfield 120, 3) := by decide +kernel
theorem dX8_push_16 : decode cX8_push 16 = .ok (.iload 5, 2) := by decide +kernel
theorem dX8_push_18 : decode cX8_push 18 = .ok (.ifCond .lt 7, 3) := by decide +kernel
theorem dX8_push_21 : decode cX8_push 21 = .ok (.iconst 1, 1) := by decide +kernel
theorem dX8_push_22 : decode cX8_push 22 = .ok (.goto 4, 3) := by decide +kernel
theorem dX8_push_25 : decode cX8_push 25 = .ok (.iconst 0, 1) := by decide +kernel
theorem dX8_push_26 : decode cX8_push 26 = .ok (.iadd, 1) := by decide +kernel
theorem dX8_push_27 : decode cX8_push 27 = .ok (.putfield 120, 3) := by decide +kernel
theorem dX8_push_30 : decode cX8_push 30 = .ok (.iload 5, 2) := by decide +kernel
theorem dX8_push_32 : decode cX8_push 32 = .ok (.ireturn, 1) := by decide +kernel
theorem dX8_trial_0 : decode cX8_trial 0 = .ok (.aload_n 0, 1) := by decide +kernel
theorem dX8_trial_1 : decode cX8_trial 1 = .ok (.iload_n 1, 1) := by decide +kernel
theorem dX8_trial_2 : decode cX8_trial 2 = .ok (.iload_n 2, 1) := by decide +kernel
theorem dX8_trial_3 : decode cX8_trial 3 = .ok (.iload_n 3, 1) := by decide +kernel
theorem dX8_trial_4 : decode cX8_trial 4 = .ok (.iload 4, 2) := by decide +kernel
theorem dX8_trial_6 : decode cX8_trial 6 = .ok (.invokevirtual 185, 3) := by decide +kernel
theorem dX8_trial_9 : decode cX8_trial 9 = .ok (.istore 5, 2) := by decide +kernel
theorem dX8_trial_11 : decode cX8_trial 11 = .ok (.iload 5, 2) := by decide +kernel
theorem dX8_trial_13 : decode cX8_trial 13 = .ok (.ifCond .lt 7, 3) := by decide +kernel
theorem dX8_trial_16 : decode cX8_trial 16 = .ok (.aload_n 0, 1) := by decide +kernel
theorem dX8_trial_17 : decode cX8_trial 17 = .ok (.invokevirtual 179, 3) := by decide +kernel
theorem dX8_trial_20 : decode cX8_trial 20 = .ok (.iload 5, 2) := by decide +kernel
theorem dX8_trial_22 : decode cX8_trial 22 = .ok (.ireturn, 1) := by decide +kernel
theorem dX8_undo_0 : decode cX8_undo 0 = .ok (.aload_n 0, 1) := by decide +kernel
theorem dX8_undo_1 : decode cX8_undo 1 = .ok (.getfield 120, 3) := by decide +kernel
theorem dX8_undo_4 : decode cX8_undo 4 = .ok (.ifCond .ne 6, 3) := by decide +kernel
theorem dX8_undo_7 : decode cX8_undo 7 = .ok (.bipush (-3), 2) := by decide +kernel
theorem dX8_undo_9 : decode cX8_undo 9 = .ok (.ireturn, 1) := by decide +kernel
theorem dX8_undo_10 : decode cX8_undo 10 = .ok (.aload_n 0, 1) := by decide +kernel
theorem dX8_undo_11 : decode cX8_undo 11 = .ok (.dup, 1) := by decide +kernel
theorem dX8_undo_12 : decode cX8_undo 12 = .ok (.getfield 120, 3) := by decide +kernel
theorem dX8_undo_15 : decode cX8_undo 15 = .ok (.iconst 1, 1) := by decide +kernel
theorem dX8_undo_16 : decode cX8_undo 16 = .ok (.isub, 1) := by decide +kernel
theorem dX8_undo_17 : decode cX8_undo 17 = .ok (.putfield 120, 3) := by decide +kernel
theorem dX8_undo_20 : decode cX8_undo 20 = .ok (.aload_n 0, 1) := by decide +kernel
theorem dX8_undo_21 : decode cX8_undo 21 = .ok (.invokevirtual 179, 3) := by decide +kernel
theorem dX8_undo_24 : decode cX8_undo 24 = .ok (.aload_n 0, 1) := by decide +kernel
theorem dX8_undo_25 : decode cX8_undo 25 = .ok (.getfield 29, 3) := by decide +kernel
theorem dX8_undo_28 : decode cX8_undo 28 = .ok (.ireturn, 1) := by decide +kernel
theorem dX8_at_0 : decode cX8_at 0 = .ok (.iload_n 1, 1) := by decide +kernel
theorem dX8_at_1 : decode cX8_at 1 = .ok (.iconst 0, 1) := by decide +kernel
theorem dX8_at_2 : decode cX8_at 2 = .ok (.aload_n 0, 1) := by decide +kernel
theorem dX8_at_3 : decode cX8_at 3 = .ok (.getfield 13, 3) := by decide +kernel
theorem dX8_at_6 : decode cX8_at 6 = .ok (.iconst 1, 1) := by decide +kernel
theorem dX8_at_7 : decode cX8_at 7 = .ok (.isub, 1) := by decide +kernel
theorem dX8_at_8 : decode cX8_at 8 = .ok (.invokestatic 104, 3) := by decide +kernel
theorem dX8_at_11 : decode cX8_at 11 = .ok (.ifCond .ne 5, 3) := by decide +kernel
theorem dX8_at_14 : decode cX8_at 14 = .ok (.iconst (-1), 1) := by decide +kernel
theorem dX8_at_15 : decode cX8_at 15 = .ok (.ireturn, 1) := by decide +kernel
theorem dX8_at_16 : decode cX8_at 16 = .ok (.iload_n 2, 1) := by decide +kernel
theorem dX8_at_17 : decode cX8_at 17 = .ok (.tableswitch 72 0 3 #[31, 38, 45, 52], 31) := by decide +kernel
theorem dX8_at_48 : decode cX8_at 48 = .ok (.aload_n 0, 1) := by decide +kernel
theorem dX8_at_49 : decode cX8_at 49 = .ok (.getfield 16, 3) := by decide +kernel
theorem dX8_at_52 : decode cX8_at 52 = .ok (.iload_n 1, 1) := by decide +kernel
theorem dX8_at_53 : decode cX8_at 53 = .ok (.iaload, 1) := by decide +kernel
theorem dX8_at_54 : decode cX8_at 54 = .ok (.ireturn, 1) := by decide +kernel
theorem dX8_at_55 : decode cX8_at 55 = .ok (.aload_n 0, 1) := by decide +kernel
theorem dX8_at_56 : decode cX8_at 56 = .ok (.getfield 20, 3) := by decide +kernel
theorem dX8_at_59 : decode cX8_at 59 = .ok (.iload_n 1, 1) := by decide +kernel
theorem dX8_at_60 : decode cX8_at 60 = .ok (.iaload, 1) := by decide +kernel
theorem dX8_at_61 : decode cX8_at 61 = .ok (.ireturn, 1) := by decide +kernel
theorem dX8_at_62 : decode cX8_at 62 = .ok (.aload_n 0, 1) := by decide +kernel
theorem dX8_at_63 : decode cX8_at 63 = .ok (.getfield 23, 3) := by decide +kernel
theorem dX8_at_66 : decode cX8_at 66 = .ok (.iload_n 1, 1) := by decide +kernel
theorem dX8_at_67 : decode cX8_at 67 = .ok (.iaload, 1) := by decide +kernel
theorem dX8_at_68 : decode cX8_at 68 = .ok (.ireturn, 1) := by decide +kernel
theorem dX8_at_69 : decode cX8_at 69 = .ok (.aload_n 0, 1) := by decide +kernel
theorem dX8_at_70 : decode cX8_at 70 = .ok (.iload_n 1, 1) := by decide +kernel
theorem dX8_at_71 : decode cX8_at 71 = .ok (.invokevirtual 159, 3) := by decide +kernel
theorem dX8_at_74 : decode cX8_at 74 = .ok (.iconst (-1), 1) := by decide +kernel
theorem dX8_at_75 : decode cX8_at 75 = .ok (.if_icmp .ne 7, 3) := by decide +kernel
theorem dX8_at_78 : decode cX8_at 78 = .ok (.iconst 0, 1) := by decide +kernel
theorem dX8_at_79 : decode cX8_at 79 = .ok (.goto 9, 3) := by decide +kernel
theorem dX8_at_82 : decode cX8_at 82 = .ok (.aload_n 0, 1) := by decide +kernel
theorem dX8_at_83 : decode cX8_at 83 = .ok (.getfield 26, 3) := by decide +kernel
theorem dX8_at_86 : decode cX8_at 86 = .ok (.iload_n 1, 1) := by decide +kernel
theorem dX8_at_87 : decode cX8_at 87 = .ok (.iaload, 1) := by decide +kernel
theorem dX8_at_88 : decode cX8_at 88 = .ok (.ireturn, 1) := by decide +kernel
theorem dX8_at_89 : decode cX8_at 89 = .ok (.iconst (-1), 1) := by decide +kernel
theorem dX8_at_90 : decode cX8_at 90 = .ok (.ireturn, 1) := by decide +kernel
theorem dX8_batch_0 : decode cX8_batch 0 = .ok (.iload_n 1, 1) := by decide +kernel
theorem dX8_batch_1 : decode cX8_batch 1 = .ok (.iconst 0, 1) := by decide +kernel
theorem dX8_batch_2 : decode cX8_batch 2 = .ok (.aload_n 0, 1) := by decide +kernel
theorem dX8_batch_3 : decode cX8_batch 3 = .ok (.getfield 29, 3) := by decide +kernel
theorem dX8_batch_6 : decode cX8_batch 6 = .ok (.iconst 1, 1) := by decide +kernel
theorem dX8_batch_7 : decode cX8_batch 7 = .ok (.isub, 1) := by decide +kernel
theorem dX8_batch_8 : decode cX8_batch 8 = .ok (.invokestatic 104, 3) := by decide +kernel
theorem dX8_batch_11 : decode cX8_batch 11 = .ok (.ifCond .ne 5, 3) := by decide +kernel
theorem dX8_batch_14 : decode cX8_batch 14 = .ok (.iconst (-1), 1) := by decide +kernel
theorem dX8_batch_15 : decode cX8_batch 15 = .ok (.ireturn, 1) := by decide +kernel
theorem dX8_batch_16 : decode cX8_batch 16 = .ok (.iconst 0, 1) := by decide +kernel
theorem dX8_batch_17 : decode cX8_batch 17 = .ok (.istore_n 3, 1) := by decide +kernel
theorem dX8_batch_18 : decode cX8_batch 18 = .ok (.iconst (-1), 1) := by decide +kernel
theorem dX8_batch_19 : decode cX8_batch 19 = .ok (.istore 4, 2) := by decide +kernel
theorem dX8_batch_21 : decode cX8_batch 21 = .ok (.iconst (-1), 1) := by decide +kernel
theorem dX8_batch_22 : decode cX8_batch 22 = .ok (.istore 5, 2) := by decide +kernel
theorem dX8_batch_24 : decode cX8_batch 24 = .ok (.iconst 0, 1) := by decide +kernel
theorem dX8_batch_25 : decode cX8_batch 25 = .ok (.istore 6, 2) := by decide +kernel
theorem dX8_batch_27 : decode cX8_batch 27 = .ok (.iload 6, 2) := by decide +kernel
theorem dX8_batch_29 : decode cX8_batch 29 = .ok (.aload_n 0, 1) := by decide +kernel
theorem dX8_batch_30 : decode cX8_batch 30 = .ok (.getfield 13, 3) := by decide +kernel
theorem dX8_batch_33 : decode cX8_batch 33 = .ok (.if_icmp .ge 45, 3) := by decide +kernel
theorem dX8_batch_36 : decode cX8_batch 36 = .ok (.aload_n 0, 1) := by decide +kernel
theorem dX8_batch_37 : decode cX8_batch 37 = .ok (.getfield 16, 3) := by decide +kernel
theorem dX8_batch_40 : decode cX8_batch 40 = .ok (.iload 6, 2) := by decide +kernel
theorem dX8_batch_42 : decode cX8_batch 42 = .ok (.iaload, 1) := by decide +kernel
theorem dX8_batch_43 : decode cX8_batch 43 = .ok (.iload_n 1, 1) := by decide +kernel
theorem dX8_batch_44 : decode cX8_batch 44 = .ok (.if_icmp .eq 6, 3) := by decide +kernel
theorem dX8_batch_47 : decode cX8_batch 47 = .ok (.goto 25, 3) := by decide +kernel
theorem dX8_batch_50 : decode cX8_batch 50 = .ok (.iinc 3 1, 3) := by decide +kernel
theorem dX8_batch_53 : decode cX8_batch 53 = .ok (.iload 6, 2) := by decide +kernel
theorem dX8_batch_55 : decode cX8_batch 55 = .ok (.istore 5, 2) := by decide +kernel
theorem dX8_batch_57 : decode cX8_batch 57 = .ok (.iload 4, 2) := by decide +kernel
theorem dX8_batch_59 : decode cX8_batch 59 = .ok (.iconst (-1), 1) := by decide +kernel
theorem dX8_batch_60 : decode cX8_batch 60 = .ok (.if_icmp .ne 8, 3) := by decide +kernel
theorem dX8_batch_63 : decode cX8_batch 63 = .ok (.iload 6, 2) := by decide +kernel
theorem dX8_batch_65 : decode cX8_batch 65 = .ok (.goto 5, 3) := by decide +kernel
theorem dX8_batch_68 : decode cX8_batch 68 = .ok (.iload 4, 2) := by decide +kernel
theorem dX8_batch_70 : decode cX8_batch 70 = .ok (.istore 4, 2) := by decide +kernel
theorem dX8_batch_72 : decode cX8_batch 72 = .ok (.iinc 6 1, 3) := by decide +kernel
theorem dX8_batch_75 : decode cX8_batch 75 = .ok (.goto (-48), 3) := by decide +kernel
theorem dX8_batch_78 : decode cX8_batch 78 = .ok (.iload_n 2, 1) := by decide +kernel
theorem dX8_batch_79 : decode cX8_batch 79 = .ok (.tableswitch 66 0 5 #[37, 44, 46, 49, 52, 59], 37) := by decide +kernel
theorem dX8_batch_116 : decode cX8_batch 116 = .ok (.aload_n 0, 1) := by decide +kernel
theorem dX8_batch_117 : decode cX8_batch 117 = .ok (.getfield 32, 3) := by decide +kernel
theorem dX8_batch_120 : decode cX8_batch 120 = .ok (.iload_n 1, 1) := by decide +kernel
theorem dX8_batch_121 : decode cX8_batch 121 = .ok (.iaload, 1) := by decide +kernel
theorem dX8_batch_122 : decode cX8_batch 122 = .ok (.ireturn, 1) := by decide +kernel
theorem dX8_batch_123 : decode cX8_batch 123 = .ok (.iload_n 3, 1) := by decide +kernel
theorem dX8_batch_124 : decode cX8_batch 124 = .ok (.ireturn, 1) := by decide +kernel
theorem dX8_batch_125 : decode cX8_batch 125 = .ok (.iload 4, 2) := by decide +kernel
theorem dX8_batch_127 : decode cX8_batch 127 = .ok (.ireturn, 1) := by decide +kernel
theorem dX8_batch_128 : decode cX8_batch 128 = .ok (.iload 5, 2) := by decide +kernel
theorem dX8_batch_130 : decode cX8_batch 130 = .ok (.ireturn, 1) := by decide +kernel
theorem dX8_batch_131 : decode cX8_batch 131 = .ok (.aload_n 0, 1) := by decide +kernel
theorem dX8_batch_132 : decode cX8_batch 132 = .ok (.getfield 38, 3) := by decide +kernel
theorem dX8_batch_135 : decode cX8_batch 135 = .ok (.iload_n 1, 1) := by decide +kernel
theorem dX8_batch_136 : decode cX8_batch 136 = .ok (.iaload, 1) := by decide +kernel
theorem dX8_batch_137 : decode cX8_batch 137 = .ok (.ireturn, 1) := by decide +kernel
theorem dX8_batch_138 : decode cX8_batch 138 = .ok (.aload_n 0, 1) := by decide +kernel
theorem dX8_batch_139 : decode cX8_batch 139 = .ok (.getfield 35, 3) := by decide +kernel
theorem dX8_batch_142 : decode cX8_batch 142 = .ok (.iload_n 1, 1) := by decide +kernel
theorem dX8_batch_143 : decode cX8_batch 143 = .ok (.iaload, 1) := by decide +kernel
theorem dX8_batch_144 : decode cX8_batch 144 = .ok (.ireturn, 1) := by decide +kernel
theorem dX8_batch_145 : decode cX8_batch 145 = .ok (.iconst (-1), 1) := by decide +kernel
theorem dX8_batch_146 : decode cX8_batch 146 = .ok (.ireturn, 1) := by decide +kernel
theorem dX8_tankOf_0 : decode cX8_tankOf 0 = .ok (.aload_n 0, 1) := by decide +kernel
theorem dX8_tankOf_1 : decode cX8_tankOf 1 = .ok (.iload_n 1, 1) := by decide +kernel
theorem dX8_tankOf_2 : decode cX8_tankOf 2 = .ok (.iload_n 2, 1) := by decide +kernel
theorem dX8_tankOf_3 : decode cX8_tankOf 3 = .ok (.invokevirtual 130, 3) := by decide +kernel
theorem dX8_tankOf_6 : decode cX8_tankOf 6 = .ok (.ifCond .ne 5, 3) := by decide +kernel
theorem dX8_tankOf_9 : decode cX8_tankOf 9 = .ok (.iconst (-1), 1) := by decide +kernel
theorem dX8_tankOf_10 : decode cX8_tankOf 10 = .ok (.ireturn, 1) := by decide +kernel
theorem dX8_tankOf_11 : decode cX8_tankOf 11 = .ok (.bipush 8, 2) := by decide +kernel
theorem dX8_tankOf_13 : decode cX8_tankOf 13 = .ok (.iload_n 1, 1) := by decide +kernel
theorem dX8_tankOf_14 : decode cX8_tankOf 14 = .ok (.imul, 1) := by decide +kernel
theorem dX8_tankOf_15 : decode cX8_tankOf 15 = .ok (.iload_n 2, 1) := by decide +kernel
theorem dX8_tankOf_16 : decode cX8_tankOf 16 = .ok (.iadd, 1) := by decide +kernel
theorem dX8_tankOf_17 : decode cX8_tankOf 17 = .ok (.istore 4, 2) := by decide +kernel
theorem dX8_tankOf_19 : decode cX8_tankOf 19 = .ok (.iload_n 3, 1) := by decide +kernel
theorem dX8_tankOf_20 : decode cX8_tankOf 20 = .ok (.tableswitch 76 0 4 #[36, 44, 52, 60, 68], 36) := by decide +kernel
theorem dX8_tankOf_56 : decode cX8_tankOf 56 = .ok (.aload_n 0, 1) := by decide +kernel
theorem dX8_tankOf_57 : decode cX8_tankOf 57 = .ok (.getfield 60, 3) := by decide +kernel
theorem dX8_tankOf_60 : decode cX8_tankOf 60 = .ok (.iload 4, 2) := by decide +kernel
theorem dX8_tankOf_62 : decode cX8_tankOf 62 = .ok (.iaload, 1) := by decide +kernel
theorem dX8_tankOf_63 : decode cX8_tankOf 63 = .ok (.ireturn, 1) := by decide +kernel
theorem dX8_tankOf_64 : decode cX8_tankOf 64 = .ok (.aload_n 0, 1) := by decide +kernel
theorem dX8_tankOf_65 : decode cX8_tankOf 65 = .ok (.getfield 63, 3) := by decide +kernel
theorem dX8_tankOf_68 : decode cX8_tankOf 68 = .ok (.iload 4, 2) := by decide +kernel
theorem dX8_tankOf_70 : decode cX8_tankOf 70 = .ok (.iaload, 1) := by decide +kernel
theorem dX8_tankOf_71 : decode cX8_tankOf 71 = .ok (.ireturn, 1) := by decide +kernel
theorem dX8_tankOf_72 : decode cX8_tankOf 72 = .ok (.aload_n 0, 1) := by decide +kernel
theorem dX8_tankOf_73 : decode cX8_tankOf 73 = .ok (.getfield 54, 3) := by decide +kernel
theorem dX8_tankOf_76 : decode cX8_tankOf 76 = .ok (.iload 4, 2) := by decide +kernel
theorem dX8_tankOf_78 : decode cX8_tankOf 78 = .ok (.iaload, 1) := by decide +kernel
theorem dX8_tankOf_79 : decode cX8_tankOf 79 = .ok (.ireturn, 1) := by decide +kernel
theorem dX8_tankOf_80 : decode cX8_tankOf 80 = .ok (.aload_n 0, 1) := by decide +kernel
theorem dX8_tankOf_81 : decode cX8_tankOf 81 = .ok (.getfield 57, 3) := by decide +kernel
theorem dX8_tankOf_84 : decode cX8_tankOf 84 = .ok (.iload 4, 2) := by decide +kernel
theorem dX8_tankOf_86 : decode cX8_tankOf 86 = .ok (.iaload, 1) := by decide +kernel
theorem dX8_tankOf_87 : decode cX8_tankOf 87 = .ok (.ireturn, 1) := by decide +kernel
theorem dX8_tankOf_88 : decode cX8_tankOf 88 = .ok (.aload_n 0, 1) := by decide +kernel
theorem dX8_tankOf_89 : decode cX8_tankOf 89 = .ok (.getfield 66, 3) := by decide +kernel
theorem dX8_tankOf_92 : decode cX8_tankOf 92 = .ok (.iload 4, 2) := by decide +kernel
theorem dX8_tankOf_94 : decode cX8_tankOf 94 = .ok (.iaload, 1) := by decide +kernel
theorem dX8_tankOf_95 : decode cX8_tankOf 95 = .ok (.ireturn, 1) := by decide +kernel
theorem dX8_tankOf_96 : decode cX8_tankOf 96 = .ok (.iconst (-1), 1) := by decide +kernel
theorem dX8_tankOf_97 : decode cX8_tankOf 97 = .ok (.ireturn, 1) := by decide +kernel
theorem dX8_about_0 : decode cX8_about 0 = .ok (.aload_n 0, 1) := by decide +kernel
theorem dX8_about_1 : decode cX8_about 1 = .ok (.iload_n 1, 1) := by decide +kernel
theorem dX8_about_2 : decode cX8_about 2 = .ok (.invokevirtual 123, 3) := by decide +kernel
theorem dX8_about_5 : decode cX8_about 5 = .ok (.ifCond .ne 5, 3) := by decide +kernel
theorem dX8_about_8 : decode cX8_about 8 = .ok (.iconst (-1), 1) := by decide +kernel
theorem dX8_about_9 : decode cX8_about 9 = .ok (.ireturn, 1) := by decide +kernel
theorem dX8_about_10 : decode cX8_about 10 = .ok (.iload_n 2, 1) := by decide +kernel
theorem dX8_about_11 : decode cX8_about 11 = .ok (.ifCond .ne 12, 3) := by decide +kernel
theorem dX8_about_14 : decode cX8_about 14 = .ok (.aload_n 0, 1) := by decide +kernel
theorem dX8_about_15 : decode cX8_about 15 = .ok (.getfield 41, 3) := by decide +kernel
theorem dX8_about_18 : decode cX8_about 18 = .ok (.iload_n 1, 1) := by decide +kernel
theorem dX8_about_19 : decode cX8_about 19 = .ok (.iaload, 1) := by decide +kernel
theorem dX8_about_20 : decode cX8_about 20 = .ok (.goto 32, 3) := by decide +kernel
theorem dX8_about_23 : decode cX8_about 23 = .ok (.iload_n 2, 1) := by decide +kernel
theorem dX8_about_24 : decode cX8_about 24 = .ok (.iconst 1, 1) := by decide +kernel
theorem dX8_about_25 : decode cX8_about 25 = .ok (.if_icmp .ne 12, 3) := by decide +kernel
theorem dX8_about_28 : decode cX8_about 28 = .ok (.aload_n 0, 1) := by decide +kernel
theorem dX8_about_29 : decode cX8_about 29 = .ok (.getfield 44, 3) := by decide +kernel
theorem dX8_about_32 : decode cX8_about 32 = .ok (.iload_n 1, 1) := by decide +kernel
theorem dX8_about_33 : decode cX8_about 33 = .ok (.iaload, 1) := by decide +kernel
theorem dX8_about_34 : decode cX8_about 34 = .ok (.goto 18, 3) := by decide +kernel
theorem dX8_about_37 : decode cX8_about 37 = .ok (.iload_n 2, 1) := by decide +kernel
theorem dX8_about_38 : decode cX8_about 38 = .ok (.iconst 2, 1) := by decide +kernel
theorem dX8_about_39 : decode cX8_about 39 = .ok (.if_icmp .ne 12, 3) := by decide +kernel
theorem dX8_about_42 : decode cX8_about 42 = .ok (.aload_n 0, 1) := by decide +kernel
theorem dX8_about_43 : decode cX8_about 43 = .ok (.getfield 47, 3) := by decide +kernel
theorem dX8_about_46 : decode cX8_about 46 = .ok (.iload_n 1, 1) := by decide +kernel
theorem dX8_about_47 : decode cX8_about 47 = .ok (.iaload, 1) := by decide +kernel
theorem dX8_about_48 : decode cX8_about 48 = .ok (.goto 4, 3) := by decide +kernel
theorem dX8_about_51 : decode cX8_about 51 = .ok (.iconst (-1), 1) := by decide +kernel
theorem dX8_about_52 : decode cX8_about 52 = .ok (.ireturn, 1) := by decide +kernel
theorem dX8_late_0 : decode cX8_late 0 = .ok (.aload_n 0, 1) := by decide +kernel
theorem dX8_late_1 : decode cX8_late 1 = .ok (.getfield 93, 3) := by decide +kernel
theorem dX8_late_4 : decode cX8_late 4 = .ok (.iload_n 1, 1) := by decide +kernel
theorem dX8_late_5 : decode cX8_late 5 = .ok (.iaload, 1) := by decide +kernel
theorem dX8_late_6 : decode cX8_late 6 = .ok (.iconst (-1), 1) := by decide +kernel
theorem dX8_late_7 : decode cX8_late 7 = .ok (.if_icmp .ne 10, 3) := by decide +kernel
theorem dX8_late_10 : decode cX8_late 10 = .ok (.aload_n 0, 1) := by decide +kernel
theorem dX8_late_11 : decode cX8_late 11 = .ok (.getfield 114, 3) := by decide +kernel
theorem dX8_late_14 : decode cX8_late 14 = .ok (.goto 9, 3) := by decide +kernel
theorem dX8_late_17 : decode cX8_late 17 = .ok (.aload_n 0, 1) := by decide +kernel
theorem dX8_late_18 : decode cX8_late 18 = .ok (.getfield 93, 3) := by decide +kernel
theorem dX8_late_21 : decode cX8_late 21 = .ok (.iload_n 1, 1) := by decide +kernel
theorem dX8_late_22 : decode cX8_late 22 = .ok (.iaload, 1) := by decide +kernel
theorem dX8_late_23 : decode cX8_late 23 = .ok (.aload_n 0, 1) := by decide +kernel
theorem dX8_late_24 : decode cX8_late 24 = .ok (.getfield 87, 3) := by decide +kernel
theorem dX8_late_27 : decode cX8_late 27 = .ok (.iload_n 1, 1) := by decide +kernel
theorem dX8_late_28 : decode cX8_late 28 = .ok (.iaload, 1) := by decide +kernel
theorem dX8_late_29 : decode cX8_late 29 = .ok (.isub, 1) := by decide +kernel
theorem dX8_late_30 : decode cX8_late 30 = .ok (.istore_n 2, 1) := by decide +kernel
theorem dX8_late_31 : decode cX8_late 31 = .ok (.iload_n 2, 1) := by decide +kernel
theorem dX8_late_32 : decode cX8_late 32 = .ok (.ifCond .le 7, 3) := by decide +kernel
theorem dX8_late_35 : decode cX8_late 35 = .ok (.iload_n 2, 1) := by decide +kernel
theorem dX8_late_36 : decode cX8_late 36 = .ok (.goto 4, 3) := by decide +kernel
theorem dX8_late_39 : decode cX8_late 39 = .ok (.iconst 0, 1) := by decide +kernel
theorem dX8_late_40 : decode cX8_late 40 = .ok (.ireturn, 1) := by decide +kernel
theorem dX8_wished_0 : decode cX8_wished 0 = .ok (.iload_n 1, 1) := by decide +kernel
theorem dX8_wished_1 : decode cX8_wished 1 = .ok (.iconst 0, 1) := by decide +kernel
theorem dX8_wished_2 : decode cX8_wished 2 = .ok (.aload_n 0, 1) := by decide +kernel
theorem dX8_wished_3 : decode cX8_wished 3 = .ok (.getfield 111, 3) := by decide +kernel
theorem dX8_wished_6 : decode cX8_wished 6 = .ok (.iconst 1, 1) := by decide +kernel
theorem dX8_wished_7 : decode cX8_wished 7 = .ok (.isub, 1) := by decide +kernel
theorem dX8_wished_8 : decode cX8_wished 8 = .ok (.invokestatic 104, 3) := by decide +kernel
theorem dX8_wished_11 : decode cX8_wished 11 = .ok (.ifCond .ne 5, 3) := by decide +kernel
theorem dX8_wished_14 : decode cX8_wished 14 = .ok (.iconst (-1), 1) := by decide +kernel
theorem dX8_wished_15 : decode cX8_wished 15 = .ok (.ireturn, 1) := by decide +kernel
theorem dX8_wished_16 : decode cX8_wished 16 = .ok (.aload_n 0, 1) := by decide +kernel
theorem dX8_wished_17 : decode cX8_wished 17 = .ok (.getfield 84, 3) := by decide +kernel
theorem dX8_wished_20 : decode cX8_wished 20 = .ok (.iload_n 1, 1) := by decide +kernel
theorem dX8_wished_21 : decode cX8_wished 21 = .ok (.iaload, 1) := by decide +kernel
theorem dX8_wished_22 : decode cX8_wished 22 = .ok (.aload_n 0, 1) := by decide +kernel
theorem dX8_wished_23 : decode cX8_wished 23 = .ok (.getfield 66, 3) := by decide +kernel
theorem dX8_wished_26 : decode cX8_wished 26 = .ok (.aload_n 0, 1) := by decide +kernel
theorem dX8_wished_27 : decode cX8_wished 27 = .ok (.getfield 81, 3) := by decide +kernel
theorem dX8_wished_30 : decode cX8_wished 30 = .ok (.iload_n 1, 1) := by decide +kernel
theorem dX8_wished_31 : decode cX8_wished 31 = .ok (.iaload, 1) := by decide +kernel
theorem dX8_wished_32 : decode cX8_wished 32 = .ok (.iaload, 1) := by decide +kernel
theorem dX8_wished_33 : decode cX8_wished 33 = .ok (.isub, 1) := by decide +kernel
theorem dX8_wished_34 : decode cX8_wished 34 = .ok (.aload_n 0, 1) := by decide +kernel
theorem dX8_wished_35 : decode cX8_wished 35 = .ok (.getfield 90, 3) := by decide +kernel
theorem dX8_wished_38 : decode cX8_wished 38 = .ok (.iload_n 1, 1) := by decide +kernel
theorem dX8_wished_39 : decode cX8_wished 39 = .ok (.iaload, 1) := by decide +kernel
theorem dX8_wished_40 : decode cX8_wished 40 = .ok (.iadd, 1) := by decide +kernel
theorem dX8_wished_41 : decode cX8_wished 41 = .ok (.istore_n 3, 1) := by decide +kernel
theorem dX8_wished_42 : decode cX8_wished 42 = .ok (.iload_n 2, 1) := by decide +kernel
theorem dX8_wished_43 : decode cX8_wished 43 = .ok (.ifCond .ne 12, 3) := by decide +kernel
theorem dX8_wished_46 : decode cX8_wished 46 = .ok (.aload_n 0, 1) := by decide +kernel
theorem dX8_wished_47 : decode cX8_wished 47 = .ok (.getfield 93, 3) := by decide +kernel
theorem dX8_wished_50 : decode cX8_wished 50 = .ok (.iload_n 1, 1) := by decide +kernel
theorem dX8_wished_51 : decode cX8_wished 51 = .ok (.iaload, 1) := by decide +kernel
theorem dX8_wished_52 : decode cX8_wished 52 = .ok (.goto 34, 3) := by decide +kernel
theorem dX8_wished_55 : decode cX8_wished 55 = .ok (.iload_n 2, 1) := by decide +kernel
theorem dX8_wished_56 : decode cX8_wished 56 = .ok (.iconst 1, 1) := by decide +kernel
theorem dX8_wished_57 : decode cX8_wished 57 = .ok (.if_icmp .ne 11, 3) := by decide +kernel
theorem dX8_wished_60 : decode cX8_wished 60 = .ok (.aload_n 0, 1) := by decide +kernel
theorem dX8_wished_61 : decode cX8_wished 61 = .ok (.iload_n 1, 1) := by decide +kernel
theorem dX8_wished_62 : decode cX8_wished 62 = .ok (.invokevirtual 189, 3) := by decide +kernel
theorem dX8_wished_65 : decode cX8_wished 65 = .ok (.goto 21, 3) := by decide +kernel
theorem dX8_wished_68 : decode cX8_wished 68 = .ok (.iload_n 2, 1) := by decide +kernel
theorem dX8_wished_69 : decode cX8_wished 69 = .ok (.iconst 2, 1) := by decide +kernel
theorem dX8_wished_70 : decode cX8_wished 70 = .ok (.if_icmp .ne 15, 3) := by decide +kernel
theorem dX8_wished_73 : decode cX8_wished 73 = .ok (.iload_n 3, 1) := by decide +kernel
theorem dX8_wished_74 : decode cX8_wished 74 = .ok (.ifCond .le 7, 3) := by decide +kernel
theorem dX8_wished_77 : decode cX8_wished 77 = .ok (.iload_n 3, 1) := by decide +kernel
theorem dX8_wished_78 : decode cX8_wished 78 = .ok (.goto 8, 3) := by decide +kernel
theorem dX8_wished_81 : decode cX8_wished 81 = .ok (.iconst 0, 1) := by decide +kernel
theorem dX8_wished_82 : decode cX8_wished 82 = .ok (.goto 4, 3) := by decide +kernel
theorem dX8_wished_85 : decode cX8_wished 85 = .ok (.iconst (-1), 1) := by decide +kernel
theorem dX8_wished_86 : decode cX8_wished 86 = .ok (.ireturn, 1) := by decide +kernel
theorem dX8_count_0 : decode cX8_count 0 = .ok (.iconst 0, 1) := by decide +kernel
theorem dX8_count_1 : decode cX8_count 1 = .ok (.istore_n 2, 1) := by decide +kernel
theorem dX8_count_2 : decode cX8_count 2 = .ok (.iload_n 1, 1) := by decide +kernel
theorem dX8_count_3 : decode cX8_count 3 = .ok (.tableswitch 166 0 8 #[49, 54, 59, 64, 98, 125, 130, 135, 161], 49) := by decide +kernel
theorem dX8_count_52 : decode cX8_count 52 = .ok (.aload_n 0, 1) := by decide +kernel
theorem dX8_count_53 : decode cX8_count 53 = .ok (.getfield 114, 3) := by decide +kernel
theorem dX8_count_56 : decode cX8_count 56 = .ok (.ireturn, 1) := by decide +kernel
theorem dX8_count_57 : decode cX8_count 57 = .ok (.aload_n 0, 1) := by decide +kernel
theorem dX8_count_58 : decode cX8_count 58 = .ok (.getfield 117, 3) := by decide +kernel
theorem dX8_count_61 : decode cX8_count 61 = .ok (.ireturn, 1) := by decide +kernel
theorem dX8_count_62 : decode cX8_count 62 = .ok (.aload_n 0, 1) := by decide +kernel
theorem dX8_count_63 : decode cX8_count 63 = .ok (.getfield 29, 3) := by decide +kernel
theorem dX8_count_66 : decode cX8_count 66 = .ok (.ireturn, 1) := by decide +kernel
theorem dX8_count_67 : decode cX8_count 67 = .ok (.iconst 0, 1) := by decide +kernel
theorem dX8_count_68 : decode cX8_count 68 = .ok (.istore_n 3, 1) := by decide +kernel
theorem dX8_count_69 : decode cX8_count 69 = .ok (.iload_n 3, 1) := by decide +kernel
theorem dX8_count_70 : decode cX8_count 70 = .ok (.aload_n 0, 1) := by decide +kernel
theorem dX8_count_71 : decode cX8_count 71 = .ok (.getfield 13, 3) := by decide +kernel
theorem dX8_count_74 : decode cX8_count 74 = .ok (.if_icmp .ge 25, 3) := by decide +kernel
theorem dX8_count_77 : decode cX8_count 77 = .ok (.iload_n 2, 1) := by decide +kernel
theorem dX8_count_78 : decode cX8_count 78 = .ok (.aload_n 0, 1) := by decide +kernel
theorem dX8_count_79 : decode cX8_count 79 = .ok (.iload_n 3, 1) := by decide +kernel
theorem dX8_count_80 : decode cX8_count 80 = .ok (.invokevirtual 146, 3) := by decide +kernel
theorem dX8_count_83 : decode cX8_count 83 = .ok (.ifCond .eq 7, 3) := by decide +kernel
theorem dX8_count_86 : decode cX8_count 86 = .ok (.iconst 0, 1) := by decide +kernel
theorem dX8_count_87 : decode cX8_count 87 = .ok (.goto 4, 3) := by decide +kernel
theorem dX8_count_90 : decode cX8_count 90 = .ok (.iconst 1, 1) := by decide +kernel
theorem dX8_count_91 : decode cX8_count 91 = .ok (.iadd, 1) := by decide +kernel
theorem dX8_count_92 : decode cX8_count 92 = .ok (.istore_n 2, 1) := by decide +kernel
theorem dX8_count_93 : decode cX8_count 93 = .ok (.iinc 3 1, 3) := by decide +kernel
theorem dX8_count_96 : decode cX8_count 96 = .ok (.goto (-27), 3) := by decide +kernel
theorem dX8_count_99 : decode cX8_count 99 = .ok (.iload_n 2, 1) := by decide +kernel
theorem dX8_count_100 : decode cX8_count 100 = .ok (.ireturn, 1) := by decide +kernel
theorem dX8_count_101 : decode cX8_count 101 = .ok (.iconst 0, 1) := by decide +kernel
theorem dX8_count_102 : decode cX8_count 102 = .ok (.istore_n 3, 1) := by decide +kernel
theorem dX8_count_103 : decode cX8_count 103 = .ok (.iload_n 3, 1) := by decide +kernel
theorem dX8_count_104 : decode cX8_count 104 = .ok (.aload_n 0, 1) := by decide +kernel
theorem dX8_count_105 : decode cX8_count 105 = .ok (.getfield 108, 3) := by decide +kernel
theorem dX8_count_108 : decode cX8_count 108 = .ok (.if_icmp .ge 18, 3) := by decide +kernel
theorem dX8_count_111 : decode cX8_count 111 = .ok (.iload_n 2, 1) := by decide +kernel
theorem dX8_count_112 : decode cX8_count 112 = .ok (.aload_n 0, 1) := by decide +kernel
theorem dX8_count_113 : decode cX8_count 113 = .ok (.getfield 47, 3) := by decide +kernel
theorem dX8_count_116 : decode cX8_count 116 = .ok (.iload_n 3, 1) := by decide +kernel
theorem dX8_count_117 : decode cX8_count 117 = .ok (.iaload, 1) := by decide +kernel
theorem dX8_count_118 : decode cX8_count 118 = .ok (.iadd, 1) := by decide +kernel
theorem dX8_count_119 : decode cX8_count 119 = .ok (.istore_n 2, 1) := by decide +kernel
theorem dX8_count_120 : decode cX8_count 120 = .ok (.iinc 3 1, 3) := by decide +kernel
theorem dX8_count_123 : decode cX8_count 123 = .ok (.goto (-20), 3) := by decide +kernel
theorem dX8_count_126 : decode cX8_count 126 = .ok (.iload_n 2, 1) := by decide +kernel
theorem dX8_count_127 : decode cX8_count 127 = .ok (.ireturn, 1) := by decide +kernel
theorem dX8_count_128 : decode cX8_count 128 = .ok (.aload_n 0, 1) := by decide +kernel
theorem dX8_count_129 : decode cX8_count 129 = .ok (.getfield 13, 3) := by decide +kernel
theorem dX8_count_132 : decode cX8_count 132 = .ok (.ireturn, 1) := by decide +kernel
theorem dX8_count_133 : decode cX8_count 133 = .ok (.aload_n 0, 1) := by decide +kernel
theorem dX8_count_134 : decode cX8_count 134 = .ok (.getfield 108, 3) := by decide +kernel
theorem dX8_count_137 : decode cX8_count 137 = .ok (.ireturn, 1) := by decide +kernel
theorem dX8_count_138 : decode cX8_count 138 = .ok (.iconst 0, 1) := by decide +kernel
theorem dX8_count_139 : decode cX8_count 139 = .ok (.istore_n 3, 1) := by decide +kernel
theorem dX8_count_140 : decode cX8_count 140 = .ok (.iload_n 3, 1) := by decide +kernel
theorem dX8_count_141 : decode cX8_count 141 = .ok (.aload_n 0, 1) := by decide +kernel
theorem dX8_count_142 : decode cX8_count 142 = .ok (.getfield 111, 3) := by decide +kernel
theorem dX8_count_145 : decode cX8_count 145 = .ok (.if_icmp .ge 17, 3) := by decide +kernel
theorem dX8_count_148 : decode cX8_count 148 = .ok (.iload_n 2, 1) := by decide +kernel
theorem dX8_count_149 : decode cX8_count 149 = .ok (.aload_n 0, 1) := by decide +kernel
theorem dX8_count_150 : decode cX8_count 150 = .ok (.iload_n 3, 1) := by decide +kernel
theorem dX8_count_151 : decode cX8_count 151 = .ok (.invokevirtual 189, 3) := by decide +kernel
theorem dX8_count_154 : decode cX8_count 154 = .ok (.iadd, 1) := by decide +kernel
theorem dX8_count_155 : decode cX8_count 155 = .ok (.istore_n 2, 1) := by decide +kernel
theorem dX8_count_156 : decode cX8_count 156 = .ok (.iinc 3 1, 3) := by decide +kernel
theorem dX8_count_159 : decode cX8_count 159 = .ok (.goto (-19), 3) := by decide +kernel
theorem dX8_count_162 : decode cX8_count 162 = .ok (.iload_n 2, 1) := by decide +kernel
theorem dX8_count_163 : decode cX8_count 163 = .ok (.ireturn, 1) := by decide +kernel
theorem dX8_count_164 : decode cX8_count 164 = .ok (.aload_n 0, 1) := by decide +kernel
theorem dX8_count_165 : decode cX8_count 165 = .ok (.getfield 120, 3) := by decide +kernel
theorem dX8_count_168 : decode cX8_count 168 = .ok (.ireturn, 1) := by decide +kernel
theorem dX8_count_169 : decode cX8_count 169 = .ok (.iconst (-1), 1) := by decide +kernel
theorem dX8_count_170 : decode cX8_count 170 = .ok (.ireturn, 1) := by decide +kernel
theorem dX8_borders_0 : decode cX8_borders 0 = .ok (.iconst 0, 1) := by decide +kernel
theorem dX8_borders_1 : decode cX8_borders 1 = .ok (.istore_n 1, 1) := by decide +kernel
theorem dX8_borders_2 : decode cX8_borders 2 = .ok (.iconst 0, 1) := by decide +kernel
theorem dX8_borders_3 : decode cX8_borders 3 = .ok (.istore_n 2, 1) := by decide +kernel
theorem dX8_borders_4 : decode cX8_borders 4 = .ok (.iload_n 2, 1) := by decide +kernel
theorem dX8_borders_5 : decode cX8_borders 5 = .ok (.aload_n 0, 1) := by decide +kernel
theorem dX8_borders_6 : decode cX8_borders 6 = .ok (.getfield 13, 3) := by decide +kernel
theorem dX8_borders_9 : decode cX8_borders 9 = .ok (.if_icmp .ge 26, 3) := by decide +kernel
theorem dX8_borders_12 : decode cX8_borders 12 = .ok (.iload_n 1, 1) := by decide +kernel
theorem dX8_borders_13 : decode cX8_borders 13 = .ok (.aload_n 0, 1) := by decide +kernel
theorem dX8_borders_14 : decode cX8_borders 14 = .ok (.iload_n 2, 1) := by decide +kernel
theorem dX8_borders_15 : decode cX8_borders 15 = .ok (.invokevirtual 159, 3) := by decide +kernel
theorem dX8_borders_18 : decode cX8_borders 18 = .ok (.iconst (-1), 1) := by decide +kernel
theorem dX8_borders_19 : decode cX8_borders 19 = .ok (.if_icmp .ne 7, 3) := by decide +kernel
theorem dX8_borders_22 : decode cX8_borders 22 = .ok (.iconst 0, 1) := by decide +kernel
theorem dX8_borders_23 : decode cX8_borders 23 = .ok (.goto 4, 3) := by decide +kernel
theorem dX8_borders_26 : decode cX8_borders 26 = .ok (.iconst 1, 1) := by decide +kernel
theorem dX8_borders_27 : decode cX8_borders 27 = .ok (.iadd, 1) := by decide +kernel
theorem dX8_borders_28 : decode cX8_borders 28 = .ok (.istore_n 1, 1) := by decide +kernel
theorem dX8_borders_29 : decode cX8_borders 29 = .ok (.iinc 2 1, 3) := by decide +kernel
theorem dX8_borders_32 : decode cX8_borders 32 = .ok (.goto (-28), 3) := by decide +kernel
theorem dX8_borders_35 : decode cX8_borders 35 = .ok (.iload_n 1, 1) := by decide +kernel
theorem dX8_borders_36 : decode cX8_borders 36 = .ok (.ireturn, 1) := by decide +kernel
