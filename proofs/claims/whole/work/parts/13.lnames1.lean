theorem dXL_law_0 : decode code 0 = .ok (.new 7, 3) := by decide +kernel
theorem dXL_law_3 : decode code 3 = .ok (.dup, 1) := by decide +kernel
theorem dXL_law_4 : decode code 4 = .ok (.invokespecial 9, 3) := by decide +kernel
theorem dXL_law_7 : decode code 7 = .ok (.astore_n 1, 1) := by decide +kernel
theorem dXL_law_8 : decode code 8 = .ok (.new 10, 3) := by decide +kernel
theorem dXL_law_11 : decode code 11 = .ok (.dup, 1) := by decide +kernel
theorem dXL_law_12 : decode code 12 = .ok (.invokespecial 12, 3) := by decide +kernel
theorem dXL_law_15 : decode code 15 = .ok (.astore_n 2, 1) := by decide +kernel
theorem dXL_law_16 : decode code 16 = .ok (.iconst 0, 1) := by decide +kernel
theorem dXL_law_17 : decode code 17 = .ok (.istore_n 3, 1) := by decide +kernel
theorem dXL_law_18 : decode code 18 = .ok (.iload_n 3, 1) := by decide +kernel
theorem dXL_law_19 : decode code 19 = .ok (.aload_n 0, 1) := by decide +kernel
theorem dXL_law_20 : decode code 20 = .ok (.arraylength, 1) := by decide +kernel
theorem dXL_law_21 : decode code 21 = .ok (.iconst 5, 1) := by decide +kernel
theorem dXL_law_22 : decode code 22 = .ok (.isub, 1) := by decide +kernel
theorem dXL_law_23 : decode code 23 = .ok (.if_icmp .gt 682, 3) := by decide +kernel
theorem dXL_law_26 : decode code 26 = .ok (.aload_n 0, 1) := by decide +kernel
theorem dXL_law_27 : decode code 27 = .ok (.iload_n 3, 1) := by decide +kernel
theorem dXL_law_28 : decode code 28 = .ok (.iaload, 1) := by decide +kernel
theorem dXL_law_29 : decode code 29 = .ok (.bipush 31, 2) := by decide +kernel
theorem dXL_law_31 : decode code 31 = .ok (.iand, 1) := by decide +kernel
theorem dXL_law_32 : decode code 32 = .ok (.tableswitch 667 0 16 #[84, 137, 188, 241, 255, 278, 311, 334, 357, 380, 443, 477, 520, 564, 587, 621, 654], 84) := by decide +kernel
theorem dXL_law_116 : decode code 116 = .ok (.aload_n 1, 1) := by decide +kernel
theorem dXL_law_117 : decode code 117 = .ok (.aload_n 0, 1) := by decide +kernel
theorem dXL_law_118 : decode code 118 = .ok (.iload_n 3, 1) := by decide +kernel
theorem dXL_law_119 : decode code 119 = .ok (.iconst 1, 1) := by decide +kernel
theorem dXL_law_120 : decode code 120 = .ok (.iadd, 1) := by decide +kernel
theorem dXL_law_121 : decode code 121 = .ok (.iaload, 1) := by decide +kernel
theorem dXL_law_122 : decode code 122 = .ok (.aload_n 0, 1) := by decide +kernel
theorem dXL_law_123 : decode code 123 = .ok (.iload_n 3, 1) := by decide +kernel
theorem dXL_law_124 : decode code 124 = .ok (.iconst 2, 1) := by decide +kernel
theorem dXL_law_125 : decode code 125 = .ok (.iadd, 1) := by decide +kernel
theorem dXL_law_126 : decode code 126 = .ok (.iaload, 1) := by decide +kernel
theorem dXL_law_127 : decode code 127 = .ok (.aload_n 0, 1) := by decide +kernel
theorem dXL_law_128 : decode code 128 = .ok (.iload_n 3, 1) := by decide +kernel
theorem dXL_law_129 : decode code 129 = .ok (.iconst 3, 1) := by decide +kernel
theorem dXL_law_130 : decode code 130 = .ok (.iadd, 1) := by decide +kernel
theorem dXL_law_131 : decode code 131 = .ok (.iaload, 1) := by decide +kernel
theorem dXL_law_132 : decode code 132 = .ok (.aload_n 0, 1) := by decide +kernel
theorem dXL_law_133 : decode code 133 = .ok (.iload_n 3, 1) := by decide +kernel
theorem dXL_law_134 : decode code 134 = .ok (.iconst 4, 1) := by decide +kernel
theorem dXL_law_135 : decode code 135 = .ok (.iadd, 1) := by decide +kernel
theorem dXL_law_136 : decode code 136 = .ok (.iaload, 1) := by decide +kernel
theorem dXL_law_137 : decode code 137 = .ok (.invokevirtual 13, 3) := by decide +kernel
theorem dXL_law_140 : decode code 140 = .ok (.aload_n 2, 1) := by decide +kernel
theorem dXL_law_141 : decode code 141 = .ok (.aload_n 0, 1) := by decide +kernel
theorem dXL_law_142 : decode code 142 = .ok (.iload_n 3, 1) := by decide +kernel
theorem dXL_law_143 : decode code 143 = .ok (.iconst 1, 1) := by decide +kernel
theorem dXL_law_144 : decode code 144 = .ok (.iadd, 1) := by decide +kernel
theorem dXL_law_145 : decode code 145 = .ok (.iaload, 1) := by decide +kernel
theorem dXL_law_146 : decode code 146 = .ok (.aload_n 0, 1) := by decide +kernel
theorem dXL_law_147 : decode code 147 = .ok (.iload_n 3, 1) := by decide +kernel
theorem dXL_law_148 : decode code 148 = .ok (.iconst 2, 1) := by decide +kernel
theorem dXL_law_149 : decode code 149 = .ok (.iadd, 1) := by decide +kernel
theorem dXL_law_150 : decode code 150 = .ok (.iaload, 1) := by decide +kernel
theorem dXL_law_151 : decode code 151 = .ok (.aload_n 0, 1) := by decide +kernel
theorem dXL_law_152 : decode code 152 = .ok (.iload_n 3, 1) := by decide +kernel
theorem dXL_law_153 : decode code 153 = .ok (.iconst 3, 1) := by decide +kernel
theorem dXL_law_154 : decode code 154 = .ok (.iadd, 1) := by decide +kernel
theorem dXL_law_155 : decode code 155 = .ok (.iaload, 1) := by decide +kernel
theorem dXL_law_156 : decode code 156 = .ok (.aload_n 0, 1) := by decide +kernel
theorem dXL_law_157 : decode code 157 = .ok (.iload_n 3, 1) := by decide +kernel
theorem dXL_law_158 : decode code 158 = .ok (.iconst 4, 1) := by decide +kernel
theorem dXL_law_159 : decode code 159 = .ok (.iadd, 1) := by decide +kernel
theorem dXL_law_160 : decode code 160 = .ok (.iaload, 1) := by decide +kernel
theorem dXL_law_161 : decode code 161 = .ok (.invokevirtual 17, 3) := by decide +kernel
theorem dXL_law_164 : decode code 164 = .ok (.if_icmp .eq 535, 3) := by decide +kernel
theorem dXL_law_167 : decode code 167 = .ok (.iconst 0, 1) := by decide +kernel
theorem dXL_law_168 : decode code 168 = .ok (.ireturn, 1) := by decide +kernel
theorem dXL_law_169 : decode code 169 = .ok (.aload_n 1, 1) := by decide +kernel
theorem dXL_law_170 : decode code 170 = .ok (.aload_n 0, 1) := by decide +kernel
theorem dXL_law_171 : decode code 171 = .ok (.iload_n 3, 1) := by decide +kernel
theorem dXL_law_172 : decode code 172 = .ok (.iconst 1, 1) := by decide +kernel
theorem dXL_law_173 : decode code 173 = .ok (.iadd, 1) := by decide +kernel
theorem dXL_law_174 : decode code 174 = .ok (.iaload, 1) := by decide +kernel
theorem dXL_law_175 : decode code 175 = .ok (.aload_n 0, 1) := by decide +kernel
theorem dXL_law_176 : decode code 176 = .ok (.iload_n 3, 1) := by decide +kernel
theorem dXL_law_177 : decode code 177 = .ok (.iconst 2, 1) := by decide +kernel
theorem dXL_law_178 : decode code 178 = .ok (.iadd, 1) := by decide +kernel
theorem dXL_law_179 : decode code 179 = .ok (.iaload, 1) := by decide +kernel
theorem dXL_law_180 : decode code 180 = .ok (.aload_n 0, 1) := by decide +kernel
theorem dXL_law_181 : decode code 181 = .ok (.iload_n 3, 1) := by decide +kernel
theorem dXL_law_182 : decode code 182 = .ok (.iconst 3, 1) := by decide +kernel
theorem dXL_law_183 : decode code 183 = .ok (.iadd, 1) := by decide +kernel
theorem dXL_law_184 : decode code 184 = .ok (.iaload, 1) := by decide +kernel
theorem dXL_law_185 : decode code 185 = .ok (.aload_n 0, 1) := by decide +kernel
theorem dXL_law_186 : decode code 186 = .ok (.iload_n 3, 1) := by decide +kernel
theorem dXL_law_187 : decode code 187 = .ok (.iconst 4, 1) := by decide +kernel
theorem dXL_law_188 : decode code 188 = .ok (.iadd, 1) := by decide +kernel
theorem dXL_law_189 : decode code 189 = .ok (.iaload, 1) := by decide +kernel
theorem dXL_law_190 : decode code 190 = .ok (.invokevirtual 18, 3) := by decide +kernel
theorem dXL_law_193 : decode code 193 = .ok (.aload_n 2, 1) := by decide +kernel
theorem dXL_law_194 : decode code 194 = .ok (.aload_n 0, 1) := by decide +kernel
theorem dXL_law_195 : decode code 195 = .ok (.iload_n 3, 1) := by decide +kernel
theorem dXL_law_196 : decode code 196 = .ok (.iconst 1, 1) := by decide +kernel
theorem dXL_law_197 : decode code 197 = .ok (.iadd, 1) := by decide +kernel
theorem dXL_law_198 : decode code 198 = .ok (.iaload, 1) := by decide +kernel
theorem dXL_law_199 : decode code 199 = .ok (.aload_n 0, 1) := by decide +kernel
theorem dXL_law_200 : decode code 200 = .ok (.iload_n 3, 1) := by decide +kernel
theorem dXL_law_201 : decode code 201 = .ok (.iconst 2, 1) := by decide +kernel
theorem dXL_law_202 : decode code 202 = .ok (.iadd, 1) := by decide +kernel
theorem dXL_law_203 : decode code 203 = .ok (.iaload, 1) := by decide +kernel
theorem dXL_law_204 : decode code 204 = .ok (.aload_n 0, 1) := by decide +kernel
theorem dXL_law_205 : decode code 205 = .ok (.iload_n 3, 1) := by decide +kernel
theorem dXL_law_206 : decode code 206 = .ok (.iconst 3, 1) := by decide +kernel
theorem dXL_law_207 : decode code 207 = .ok (.iadd, 1) := by decide +kernel
theorem dXL_law_208 : decode code 208 = .ok (.iaload, 1) := by decide +kernel
theorem dXL_law_209 : decode code 209 = .ok (.aload_n 0, 1) := by decide +kernel
theorem dXL_law_210 : decode code 210 = .ok (.iload_n 3, 1) := by decide +kernel
theorem dXL_law_211 : decode code 211 = .ok (.iconst 4, 1) := by decide +kernel
theorem dXL_law_212 : decode code 212 = .ok (.iadd, 1) := by decide +kernel
theorem dXL_law_213 : decode code 213 = .ok (.iaload, 1) := by decide +kernel
theorem dXL_law_214 : decode code 214 = .ok (.invokevirtual 22, 3) := by decide +kernel
theorem dXL_law_217 : decode code 217 = .ok (.goto 482, 3) := by decide +kernel
theorem dXL_law_220 : decode code 220 = .ok (.aload_n 1, 1) := by decide +kernel
theorem dXL_law_221 : decode code 221 = .ok (.aload_n 0, 1) := by decide +kernel
theorem dXL_law_222 : decode code 222 = .ok (.iload_n 3, 1) := by decide +kernel
theorem dXL_law_223 : decode code 223 = .ok (.iconst 1, 1) := by decide +kernel
theorem dXL_law_224 : decode code 224 = .ok (.iadd, 1) := by decide +kernel
theorem dXL_law_225 : decode code 225 = .ok (.iaload, 1) := by decide +kernel
theorem dXL_law_226 : decode code 226 = .ok (.i2l, 1) := by decide +kernel
theorem dXL_law_227 : decode code 227 = .ok (.bipush 32, 2) := by decide +kernel
theorem dXL_law_229 : decode code 229 = .ok (.lshl, 1) := by decide +kernel
theorem dXL_law_230 : decode code 230 = .ok (.aload_n 0, 1) := by decide +kernel
theorem dXL_law_231 : decode code 231 = .ok (.iload_n 3, 1) := by decide +kernel
theorem dXL_law_232 : decode code 232 = .ok (.iconst 2, 1) := by decide +kernel
theorem dXL_law_233 : decode code 233 = .ok (.iadd, 1) := by decide +kernel
theorem dXL_law_234 : decode code 234 = .ok (.iaload, 1) := by decide +kernel
theorem dXL_law_235 : decode code 235 = .ok (.i2l, 1) := by decide +kernel
theorem dXL_law_236 : decode code 236 = .ok (.ldc2_w 23, 3) := by decide +kernel
