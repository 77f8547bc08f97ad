theorem d_L_law_0 : decode c_L_law 0 = .ok (.new 8, 3) := by decide +kernel
theorem d_L_law_3 : decode c_L_law 3 = .ok (.dup, 1) := by decide +kernel
theorem d_L_law_4 : decode c_L_law 4 = .ok (.invokespecial 17, 3) := by decide +kernel
theorem d_L_law_7 : decode c_L_law 7 = .ok (.astore_n 1, 1) := by decide +kernel
theorem d_L_law_8 : decode c_L_law 8 = .ok (.new 18, 3) := by decide +kernel
theorem d_L_law_11 : decode c_L_law 11 = .ok (.dup, 1) := by decide +kernel
theorem d_L_law_12 : decode c_L_law 12 = .ok (.invokespecial 20, 3) := by decide +kernel
theorem d_L_law_15 : decode c_L_law 15 = .ok (.astore_n 2, 1) := by decide +kernel
theorem d_L_law_16 : decode c_L_law 16 = .ok (.iconst 1, 1) := by decide +kernel
theorem d_L_law_17 : decode c_L_law 17 = .ok (.newarray .long, 2) := by decide +kernel
theorem d_L_law_19 : decode c_L_law 19 = .ok (.astore_n 3, 1) := by decide +kernel
theorem d_L_law_20 : decode c_L_law 20 = .ok (.iconst 0, 1) := by decide +kernel
theorem d_L_law_21 : decode c_L_law 21 = .ok (.istore 4, 2) := by decide +kernel
theorem d_L_law_23 : decode c_L_law 23 = .ok (.iload 4, 2) := by decide +kernel
theorem d_L_law_25 : decode c_L_law 25 = .ok (.aload_n 0, 1) := by decide +kernel
theorem d_L_law_26 : decode c_L_law 26 = .ok (.arraylength, 1) := by decide +kernel
theorem d_L_law_27 : decode c_L_law 27 = .ok (.iconst 5, 1) := by decide +kernel
theorem d_L_law_28 : decode c_L_law 28 = .ok (.isub, 1) := by decide +kernel
theorem d_L_law_29 : decode c_L_law 29 = .ok (.if_icmp .gt 811, 3) := by decide +kernel
theorem d_L_law_32 : decode c_L_law 32 = .ok (.aload_n 0, 1) := by decide +kernel
theorem d_L_law_33 : decode c_L_law 33 = .ok (.iload 4, 2) := by decide +kernel
theorem d_L_law_35 : decode c_L_law 35 = .ok (.iaload, 1) := by decide +kernel
theorem d_L_law_36 : decode c_L_law 36 = .ok (.bipush 31, 2) := by decide +kernel
theorem d_L_law_38 : decode c_L_law 38 = .ok (.iand, 1) := by decide +kernel
theorem d_L_law_39 : decode c_L_law 39 = .ok (.tableswitch 795 0 19 #[93, 106, 131, 168, 229, 266, 303, 340, 353, 378, 428, 454, 492, 530, 555, 634, 671, 696, 721, 758], 93) := by decide +kernel
theorem d_L_law_132 : decode c_L_law 132 = .ok (.aload_n 1, 1) := by decide +kernel
theorem d_L_law_133 : decode c_L_law 133 = .ok (.invokevirtual 21, 3) := by decide +kernel
theorem d_L_law_136 : decode c_L_law 136 = .ok (.aload_n 2, 1) := by decide +kernel
theorem d_L_law_137 : decode c_L_law 137 = .ok (.invokevirtual 25, 3) := by decide +kernel
theorem d_L_law_140 : decode c_L_law 140 = .ok (.if_icmp .eq 694, 3) := by decide +kernel
theorem d_L_law_143 : decode c_L_law 143 = .ok (.iconst 0, 1) := by decide +kernel
theorem d_L_law_144 : decode c_L_law 144 = .ok (.ireturn, 1) := by decide +kernel
theorem d_L_law_145 : decode c_L_law 145 = .ok (.aload_n 1, 1) := by decide +kernel
theorem d_L_law_146 : decode c_L_law 146 = .ok (.aload_n 0, 1) := by decide +kernel
theorem d_L_law_147 : decode c_L_law 147 = .ok (.iload 4, 2) := by decide +kernel
theorem d_L_law_149 : decode c_L_law 149 = .ok (.iconst 1, 1) := by decide +kernel
theorem d_L_law_150 : decode c_L_law 150 = .ok (.iadd, 1) := by decide +kernel
theorem d_L_law_151 : decode c_L_law 151 = .ok (.iaload, 1) := by decide +kernel
theorem d_L_law_152 : decode c_L_law 152 = .ok (.invokevirtual 26, 3) := by decide +kernel
theorem d_L_law_155 : decode c_L_law 155 = .ok (.aload_n 2, 1) := by decide +kernel
theorem d_L_law_156 : decode c_L_law 156 = .ok (.aload_n 0, 1) := by decide +kernel
theorem d_L_law_157 : decode c_L_law 157 = .ok (.iload 4, 2) := by decide +kernel
theorem d_L_law_159 : decode c_L_law 159 = .ok (.iconst 1, 1) := by decide +kernel
theorem d_L_law_160 : decode c_L_law 160 = .ok (.iadd, 1) := by decide +kernel
theorem d_L_law_161 : decode c_L_law 161 = .ok (.iaload, 1) := by decide +kernel
theorem d_L_law_162 : decode c_L_law 162 = .ok (.invokevirtual 30, 3) := by decide +kernel
theorem d_L_law_165 : decode c_L_law 165 = .ok (.if_icmp .eq 669, 3) := by decide +kernel
theorem d_L_law_168 : decode c_L_law 168 = .ok (.iconst 0, 1) := by decide +kernel
theorem d_L_law_169 : decode c_L_law 169 = .ok (.ireturn, 1) := by decide +kernel
theorem d_L_law_170 : decode c_L_law 170 = .ok (.aload_n 1, 1) := by decide +kernel
theorem d_L_law_171 : decode c_L_law 171 = .ok (.aload_n 0, 1) := by decide +kernel
theorem d_L_law_172 : decode c_L_law 172 = .ok (.iload 4, 2) := by decide +kernel
theorem d_L_law_174 : decode c_L_law 174 = .ok (.iconst 1, 1) := by decide +kernel
theorem d_L_law_175 : decode c_L_law 175 = .ok (.iadd, 1) := by decide +kernel
theorem d_L_law_176 : decode c_L_law 176 = .ok (.iaload, 1) := by decide +kernel
theorem d_L_law_177 : decode c_L_law 177 = .ok (.aload_n 0, 1) := by decide +kernel
theorem d_L_law_178 : decode c_L_law 178 = .ok (.iload 4, 2) := by decide +kernel
theorem d_L_law_180 : decode c_L_law 180 = .ok (.iconst 2, 1) := by decide +kernel
theorem d_L_law_181 : decode c_L_law 181 = .ok (.iadd, 1) := by decide +kernel
theorem d_L_law_182 : decode c_L_law 182 = .ok (.iaload, 1) := by decide +kernel
theorem d_L_law_183 : decode c_L_law 183 = .ok (.invokevirtual 31, 3) := by decide +kernel
theorem d_L_law_186 : decode c_L_law 186 = .ok (.aload_n 2, 1) := by decide +kernel
theorem d_L_law_187 : decode c_L_law 187 = .ok (.aload_n 0, 1) := by decide +kernel
theorem d_L_law_188 : decode c_L_law 188 = .ok (.iload 4, 2) := by decide +kernel
theorem d_L_law_190 : decode c_L_law 190 = .ok (.iconst 1, 1) := by decide +kernel
theorem d_L_law_191 : decode c_L_law 191 = .ok (.iadd, 1) := by decide +kernel
theorem d_L_law_192 : decode c_L_law 192 = .ok (.iaload, 1) := by decide +kernel
theorem d_L_law_193 : decode c_L_law 193 = .ok (.aload_n 0, 1) := by decide +kernel
theorem d_L_law_194 : decode c_L_law 194 = .ok (.iload 4, 2) := by decide +kernel
theorem d_L_law_196 : decode c_L_law 196 = .ok (.iconst 2, 1) := by decide +kernel
theorem d_L_law_197 : decode c_L_law 197 = .ok (.iadd, 1) := by decide +kernel
theorem d_L_law_198 : decode c_L_law 198 = .ok (.iaload, 1) := by decide +kernel
theorem d_L_law_199 : decode c_L_law 199 = .ok (.invokevirtual 35, 3) := by decide +kernel
theorem d_L_law_202 : decode c_L_law 202 = .ok (.if_icmp .eq 632, 3) := by decide +kernel
theorem d_L_law_205 : decode c_L_law 205 = .ok (.iconst 0, 1) := by decide +kernel
theorem d_L_law_206 : decode c_L_law 206 = .ok (.ireturn, 1) := by decide +kernel
theorem d_L_law_207 : decode c_L_law 207 = .ok (.aload_n 1, 1) := by decide +kernel
theorem d_L_law_208 : decode c_L_law 208 = .ok (.aload_n 0, 1) := by decide +kernel
theorem d_L_law_209 : decode c_L_law 209 = .ok (.iload 4, 2) := by decide +kernel
theorem d_L_law_211 : decode c_L_law 211 = .ok (.iconst 1, 1) := by decide +kernel
theorem d_L_law_212 : decode c_L_law 212 = .ok (.iadd, 1) := by decide +kernel
theorem d_L_law_213 : decode c_L_law 213 = .ok (.iaload, 1) := by decide +kernel
theorem d_L_law_214 : decode c_L_law 214 = .ok (.aload_n 0, 1) := by decide +kernel
theorem d_L_law_215 : decode c_L_law 215 = .ok (.iload 4, 2) := by decide +kernel
theorem d_L_law_217 : decode c_L_law 217 = .ok (.iconst 2, 1) := by decide +kernel
theorem d_L_law_218 : decode c_L_law 218 = .ok (.iadd, 1) := by decide +kernel
theorem d_L_law_219 : decode c_L_law 219 = .ok (.iaload, 1) := by decide +kernel
theorem d_L_law_220 : decode c_L_law 220 = .ok (.aload_n 0, 1) := by decide +kernel
theorem d_L_law_221 : decode c_L_law 221 = .ok (.iload 4, 2) := by decide +kernel
theorem d_L_law_223 : decode c_L_law 223 = .ok (.iconst 3, 1) := by decide +kernel
