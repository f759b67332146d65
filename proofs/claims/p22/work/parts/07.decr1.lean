theorem dX12_init_0 : decode cX12_init 0 = .ok (.aload_n 0, 1) := by decide +kernel
theorem dX12_init_1 : decode cX12_init 1 = .ok (.invokespecial 1, 3) := by decide +kernel
theorem dX12_init_4 : decode cX12_init 4 = .ok (.aload_n 0, 1) := by decide +kernel
theorem dX12_init_5 : decode cX12_init 5 = .ok (.bipush 6, 2) := by decide +kernel
theorem dX12_init_7 : decode cX12_init 7 = .ok (.newarray .int, 2) := by decide +kernel
theorem dX12_init_9 : decode cX12_init 9 = .ok (.putfield 7, 3) := by decide +kernel
theorem dX12_init_12 : decode cX12_init 12 = .ok (.aload_n 0, 1) := by decide +kernel
theorem dX12_init_13 : decode cX12_init 13 = .ok (.bipush 60, 2) := by decide +kernel
theorem dX12_init_15 : decode cX12_init 15 = .ok (.newarray .int, 2) := by decide +kernel
theorem dX12_init_17 : decode cX12_init 17 = .ok (.putfield 13, 3) := by decide +kernel
theorem dX12_init_20 : decode cX12_init 20 = .ok (.aload_n 0, 1) := by decide +kernel
theorem dX12_init_21 : decode cX12_init 21 = .ok (.bipush 60, 2) := by decide +kernel
theorem dX12_init_23 : decode cX12_init 23 = .ok (.newarray .boolean, 2) := by decide +kernel
theorem dX12_init_25 : decode cX12_init 25 = .ok (.putfield 16, 3) := by decide +kernel
theorem dX12_init_28 : decode cX12_init 28 = .ok (.aload_n 0, 1) := by decide +kernel
theorem dX12_init_29 : decode cX12_init 29 = .ok (.bipush 12, 2) := by decide +kernel
theorem dX12_init_31 : decode cX12_init 31 = .ok (.newarray .int, 2) := by decide +kernel
theorem dX12_init_33 : decode cX12_init 33 = .ok (.putfield 20, 3) := by decide +kernel
theorem dX12_init_36 : decode cX12_init 36 = .ok (.aload_n 0, 1) := by decide +kernel
theorem dX12_init_37 : decode cX12_init 37 = .ok (.bipush 60, 2) := by decide +kernel
theorem dX12_init_39 : decode cX12_init 39 = .ok (.newarray .int, 2) := by decide +kernel
theorem dX12_init_41 : decode cX12_init 41 = .ok (.putfield 23, 3) := by decide +kernel
theorem dX12_init_44 : decode cX12_init 44 = .ok (.aload_n 0, 1) := by decide +kernel
theorem dX12_init_45 : decode cX12_init 45 = .ok (.bipush 60, 2) := by decide +kernel
theorem dX12_init_47 : decode cX12_init 47 = .ok (.newarray .int, 2) := by decide +kernel
theorem dX12_init_49 : decode cX12_init 49 = .ok (.putfield 26, 3) := by decide +kernel
theorem dX12_init_52 : decode cX12_init 52 = .ok (.aload_n 0, 1) := by decide +kernel
theorem dX12_init_53 : decode cX12_init 53 = .ok (.bipush 60, 2) := by decide +kernel
theorem dX12_init_55 : decode cX12_init 55 = .ok (.newarray .int, 2) := by decide +kernel
theorem dX12_init_57 : decode cX12_init 57 = .ok (.putfield 29, 3) := by decide +kernel
theorem dX12_init_60 : decode cX12_init 60 = .ok (.aload_n 0, 1) := by decide +kernel
theorem dX12_init_61 : decode cX12_init 61 = .ok (.bipush 12, 2) := by decide +kernel
theorem dX12_init_63 : decode cX12_init 63 = .ok (.newarray .int, 2) := by decide +kernel
theorem dX12_init_65 : decode cX12_init 65 = .ok (.putfield 32, 3) := by decide +kernel
theorem dX12_init_68 : decode cX12_init 68 = .ok (.aload_n 0, 1) := by decide +kernel
theorem dX12_init_69 : decode cX12_init 69 = .ok (.bipush 24, 2) := by decide +kernel
theorem dX12_init_71 : decode cX12_init 71 = .ok (.newarray .int, 2) := by decide +kernel
theorem dX12_init_73 : decode cX12_init 73 = .ok (.putfield 35, 3) := by decide +kernel
theorem dX12_init_76 : decode cX12_init 76 = .ok (.aload_n 0, 1) := by decide +kernel
theorem dX12_init_77 : decode cX12_init 77 = .ok (.bipush 24, 2) := by decide +kernel
theorem dX12_init_79 : decode cX12_init 79 = .ok (.newarray .int, 2) := by decide +kernel
theorem dX12_init_81 : decode cX12_init 81 = .ok (.putfield 38, 3) := by decide +kernel
theorem dX12_init_84 : decode cX12_init 84 = .ok (.aload_n 0, 1) := by decide +kernel
theorem dX12_init_85 : decode cX12_init 85 = .ok (.bipush 24, 2) := by decide +kernel
theorem dX12_init_87 : decode cX12_init 87 = .ok (.newarray .int, 2) := by decide +kernel
theorem dX12_init_89 : decode cX12_init 89 = .ok (.putfield 41, 3) := by decide +kernel
theorem dX12_init_92 : decode cX12_init 92 = .ok (.aload_n 0, 1) := by decide +kernel
theorem dX12_init_93 : decode cX12_init 93 = .ok (.ldc 44, 2) := by decide +kernel
theorem dX12_init_95 : decode cX12_init 95 = .ok (.newarray .int, 2) := by decide +kernel
theorem dX12_init_97 : decode cX12_init 97 = .ok (.putfield 45, 3) := by decide +kernel
theorem dX12_init_100 : decode cX12_init 100 = .ok (.aload_n 0, 1) := by decide +kernel
theorem dX12_init_101 : decode cX12_init 101 = .ok (.ldc 48, 2) := by decide +kernel
theorem dX12_init_103 : decode cX12_init 103 = .ok (.newarray .int, 2) := by decide +kernel
theorem dX12_init_105 : decode cX12_init 105 = .ok (.putfield 49, 3) := by decide +kernel
theorem dX12_init_108 : decode cX12_init 108 = .ok (.aload_n 0, 1) := by decide +kernel
theorem dX12_init_109 : decode cX12_init 109 = .ok (.sipush 26200, 3) := by decide +kernel
theorem dX12_init_112 : decode cX12_init 112 = .ok (.newarray .int, 2) := by decide +kernel
theorem dX12_init_114 : decode cX12_init 114 = .ok (.putfield 52, 3) := by decide +kernel
theorem dX12_init_117 : decode cX12_init 117 = .ok (.aload_n 0, 1) := by decide +kernel
theorem dX12_init_118 : decode cX12_init 118 = .ok (.sipush 26200, 3) := by decide +kernel
theorem dX12_init_121 : decode cX12_init 121 = .ok (.newarray .int, 2) := by decide +kernel
theorem dX12_init_123 : decode cX12_init 123 = .ok (.putfield 55, 3) := by decide +kernel
theorem dX12_init_126 : decode cX12_init 126 = .ok (.aload_n 0, 1) := by decide +kernel
theorem dX12_init_127 : decode cX12_init 127 = .ok (.ldc 58, 2) := by decide +kernel
theorem dX12_init_129 : decode cX12_init 129 = .ok (.newarray .long, 2) := by decide +kernel
theorem dX12_init_131 : decode cX12_init 131 = .ok (.putfield 59, 3) := by decide +kernel
theorem dX12_init_134 : decode cX12_init 134 = .ok (.aload_n 0, 1) := by decide +kernel
theorem dX12_init_135 : decode cX12_init 135 = .ok (.ldc 58, 2) := by decide +kernel
theorem dX12_init_137 : decode cX12_init 137 = .ok (.newarray .int, 2) := by decide +kernel
theorem dX12_init_139 : decode cX12_init 139 = .ok (.putfield 63, 3) := by decide +kernel
theorem dX12_init_142 : decode cX12_init 142 = .ok (.aload_n 0, 1) := by decide +kernel
theorem dX12_init_143 : decode cX12_init 143 = .ok (.bipush 10, 2) := by decide +kernel
theorem dX12_init_145 : decode cX12_init 145 = .ok (.newarray .int, 2) := by decide +kernel
theorem dX12_init_147 : decode cX12_init 147 = .ok (.dup, 1) := by decide +kernel
theorem dX12_init_148 : decode cX12_init 148 = .ok (.iconst 0, 1) := by decide +kernel
theorem dX12_init_149 : decode cX12_init 149 = .ok (.iconst (-1), 1) := by decide +kernel
theorem dX12_init_150 : decode cX12_init 150 = .ok (.iastore, 1) := by decide +kernel
theorem dX12_init_151 : decode cX12_init 151 = .ok (.dup, 1) := by decide +kernel
theorem dX12_init_152 : decode cX12_init 152 = .ok (.iconst 1, 1) := by decide +kernel
theorem dX12_init_153 : decode cX12_init 153 = .ok (.iconst (-1), 1) := by decide +kernel
theorem dX12_init_154 : decode cX12_init 154 = .ok (.iastore, 1) := by decide +kernel
theorem dX12_init_155 : decode cX12_init 155 = .ok (.dup, 1) := by decide +kernel
theorem dX12_init_156 : decode cX12_init 156 = .ok (.iconst 2, 1) := by decide +kernel
theorem dX12_init_157 : decode cX12_init 157 = .ok (.iconst (-1), 1) := by decide +kernel
theorem dX12_init_158 : decode cX12_init 158 = .ok (.iastore, 1) := by decide +kernel
theorem dX12_init_159 : decode cX12_init 159 = .ok (.dup, 1) := by decide +kernel
theorem dX12_init_160 : decode cX12_init 160 = .ok (.iconst 3, 1) := by decide +kernel
theorem dX12_init_161 : decode cX12_init 161 = .ok (.iconst (-1), 1) := by decide +kernel
theorem dX12_init_162 : decode cX12_init 162 = .ok (.iastore, 1) := by decide +kernel
theorem dX12_init_163 : decode cX12_init 163 = .ok (.dup, 1) := by decide +kernel
theorem dX12_init_164 : decode cX12_init 164 = .ok (.iconst 4, 1) := by decide +kernel
theorem dX12_init_165 : decode cX12_init 165 = .ok (.iconst (-1), 1) := by decide +kernel
theorem dX12_init_166 : decode cX12_init 166 = .ok (.iastore, 1) := by decide +kernel
theorem dX12_init_167 : decode cX12_init 167 = .ok (.dup, 1) := by decide +kernel
theorem dX12_init_168 : decode cX12_init 168 = .ok (.iconst 5, 1) := by decide +kernel
theorem dX12_init_169 : decode cX12_init 169 = .ok (.iconst (-1), 1) := by decide +kernel
theorem dX12_init_170 : decode cX12_init 170 = .ok (.iastore, 1) := by decide +kernel
theorem dX12_init_171 : decode cX12_init 171 = .ok (.dup, 1) := by decide +kernel
theorem dX12_init_172 : decode cX12_init 172 = .ok (.bipush 6, 2) := by decide +kernel
theorem dX12_init_174 : decode cX12_init 174 = .ok (.iconst (-1), 1) := by decide +kernel
theorem dX12_init_175 : decode cX12_init 175 = .ok (.iastore, 1) := by decide +kernel
theorem dX12_init_176 : decode cX12_init 176 = .ok (.dup, 1) := by decide +kernel
theorem dX12_init_177 : decode cX12_init 177 = .ok (.bipush 7, 2) := by decide +kernel
theorem dX12_init_179 : decode cX12_init 179 = .ok (.iconst (-1), 1) := by decide +kernel
theorem dX12_init_180 : decode cX12_init 180 = .ok (.iastore, 1) := by decide +kernel
theorem dX12_init_181 : decode cX12_init 181 = .ok (.dup, 1) := by decide +kernel
theorem dX12_init_182 : decode cX12_init 182 = .ok (.bipush 8, 2) := by decide +kernel
theorem dX12_init_184 : decode cX12_init 184 = .ok (.iconst (-1), 1) := by decide +kernel
theorem dX12_init_185 : decode cX12_init 185 = .ok (.iastore, 1) := by decide +kernel
theorem dX12_init_186 : decode cX12_init 186 = .ok (.dup, 1) := by decide +kernel
theorem dX12_init_187 : decode cX12_init 187 = .ok (.bipush 9, 2) := by decide +kernel
theorem dX12_init_189 : decode cX12_init 189 = .ok (.iconst (-1), 1) := by decide +kernel
theorem dX12_init_190 : decode cX12_init 190 = .ok (.iastore, 1) := by decide +kernel
theorem dX12_init_191 : decode cX12_init 191 = .ok (.putfield 66, 3) := by decide +kernel
theorem dX12_init_194 : decode cX12_init 194 = .ok (.aload_n 0, 1) := by decide +kernel
theorem dX12_init_195 : decode cX12_init 195 = .ok (.iconst 5, 1) := by decide +kernel
theorem dX12_init_196 : decode cX12_init 196 = .ok (.newarray .long, 2) := by decide +kernel
theorem dX12_init_198 : decode cX12_init 198 = .ok (.putfield 69, 3) := by decide +kernel
theorem dX12_init_201 : decode cX12_init 201 = .ok (.aload_n 0, 1) := by decide +kernel
theorem dX12_init_202 : decode cX12_init 202 = .ok (.iconst 5, 1) := by decide +kernel
theorem dX12_init_203 : decode cX12_init 203 = .ok (.newarray .int, 2) := by decide +kernel
theorem dX12_init_205 : decode cX12_init 205 = .ok (.putfield 72, 3) := by decide +kernel
theorem dX12_init_208 : decode cX12_init 208 = .ok (.aload_n 0, 1) := by decide +kernel
theorem dX12_init_209 : decode cX12_init 209 = .ok (.sipush 250, 3) := by decide +kernel
theorem dX12_init_212 : decode cX12_init 212 = .ok (.newarray .long, 2) := by decide +kernel
theorem dX12_init_214 : decode cX12_init 214 = .ok (.putfield 75, 3) := by decide +kernel
theorem dX12_init_217 : decode cX12_init 217 = .ok (.aload_n 0, 1) := by decide +kernel
theorem dX12_init_218 : decode cX12_init 218 = .ok (.bipush (-3), 2) := by decide +kernel
theorem dX12_init_220 : decode cX12_init 220 = .ok (.putfield 78, 3) := by decide +kernel
theorem dX12_init_223 : decode cX12_init 223 = .ok (.aload_n 0, 1) := by decide +kernel
theorem dX12_init_224 : decode cX12_init 224 = .ok (.bipush 40, 2) := by decide +kernel
theorem dX12_init_226 : decode cX12_init 226 = .ok (.newarray .long, 2) := by decide +kernel
theorem dX12_init_228 : decode cX12_init 228 = .ok (.putfield 82, 3) := by decide +kernel
theorem dX12_init_231 : decode cX12_init 231 = .ok (.aload_n 0, 1) := by decide +kernel
theorem dX12_init_232 : decode cX12_init 232 = .ok (.bipush 40, 2) := by decide +kernel
theorem dX12_init_234 : decode cX12_init 234 = .ok (.newarray .int, 2) := by decide +kernel
theorem dX12_init_236 : decode cX12_init 236 = .ok (.putfield 85, 3) := by decide +kernel
theorem dX12_init_239 : decode cX12_init 239 = .ok (.aload_n 0, 1) := by decide +kernel
theorem dX12_init_240 : decode cX12_init 240 = .ok (.bipush 40, 2) := by decide +kernel
theorem dX12_init_242 : decode cX12_init 242 = .ok (.newarray .int, 2) := by decide +kernel
theorem dX12_init_244 : decode cX12_init 244 = .ok (.putfield 88, 3) := by decide +kernel
theorem dX12_init_247 : decode cX12_init 247 = .ok (.aload_n 0, 1) := by decide +kernel
theorem dX12_init_248 : decode cX12_init 248 = .ok (.bipush 40, 2) := by decide +kernel
theorem dX12_init_250 : decode cX12_init 250 = .ok (.newarray .int, 2) := by decide +kernel
theorem dX12_init_252 : decode cX12_init 252 = .ok (.putfield 91, 3) := by decide +kernel
theorem dX12_init_255 : decode cX12_init 255 = .ok (.aload_n 0, 1) := by decide +kernel
theorem dX12_init_256 : decode cX12_init 256 = .ok (.bipush 40, 2) := by decide +kernel
theorem dX12_init_258 : decode cX12_init 258 = .ok (.newarray .int, 2) := by decide +kernel
theorem dX12_init_260 : decode cX12_init 260 = .ok (.putfield 94, 3) := by decide +kernel
theorem dX12_init_263 : decode cX12_init 263 = .ok (.aload_n 0, 1) := by decide +kernel
theorem dX12_init_264 : decode cX12_init 264 = .ok (.sipush 250, 3) := by decide +kernel
theorem dX12_init_267 : decode cX12_init 267 = .ok (.newarray .long, 2) := by decide +kernel
theorem dX12_init_269 : decode cX12_init 269 = .ok (.putfield 97, 3) := by decide +kernel
theorem dX12_init_272 : decode cX12_init 272 = .ok (.aload_n 0, 1) := by decide +kernel
theorem dX12_init_273 : decode cX12_init 273 = .ok (.sipush 130, 3) := by decide +kernel
theorem dX12_init_276 : decode cX12_init 276 = .ok (.newarray .int, 2) := by decide +kernel
theorem dX12_init_278 : decode cX12_init 278 = .ok (.putfield 100, 3) := by decide +kernel
theorem dX12_init_281 : decode cX12_init 281 = .ok (.aload_n 0, 1) := by decide +kernel
theorem dX12_init_282 : decode cX12_init 282 = .ok (.sipush 130, 3) := by decide +kernel
theorem dX12_init_285 : decode cX12_init 285 = .ok (.newarray .int, 2) := by decide +kernel
theorem dX12_init_287 : decode cX12_init 287 = .ok (.putfield 103, 3) := by decide +kernel
theorem dX12_init_290 : decode cX12_init 290 = .ok (.aload_n 0, 1) := by decide +kernel
theorem dX12_init_291 : decode cX12_init 291 = .ok (.bipush 7, 2) := by decide +kernel
theorem dX12_init_293 : decode cX12_init 293 = .ok (.newarray .int, 2) := by decide +kernel
theorem dX12_init_295 : decode cX12_init 295 = .ok (.putfield 106, 3) := by decide +kernel
theorem dX12_init_298 : decode cX12_init 298 = .ok (.aload_n 0, 1) := by decide +kernel
theorem dX12_init_299 : decode cX12_init 299 = .ok (.bipush 7, 2) := by decide +kernel
theorem dX12_init_301 : decode cX12_init 301 = .ok (.newarray .long, 2) := by decide +kernel
theorem dX12_init_303 : decode cX12_init 303 = .ok (.putfield 109, 3) := by decide +kernel
theorem dX12_init_306 : decode cX12_init 306 = .ok (.aload_n 0, 1) := by decide +kernel
theorem dX12_init_307 : decode cX12_init 307 = .ok (.bipush 7, 2) := by decide +kernel
theorem dX12_init_309 : decode cX12_init 309 = .ok (.newarray .int, 2) := by decide +kernel
theorem dX12_init_311 : decode cX12_init 311 = .ok (.putfield 112, 3) := by decide +kernel
theorem dX12_init_314 : decode cX12_init 314 = .ok (.return_, 1) := by decide +kernel
theorem dX12_in_0 : decode cX12_in 0 = .ok (.lload_n 0, 1) := by decide +kernel
theorem dX12_in_1 : decode cX12_in 1 = .ok (.lload_n 2, 1) := by decide +kernel
theorem dX12_in_2 : decode cX12_in 2 = .ok (.lcmp, 1) := by decide +kernel
theorem dX12_in_3 : decode cX12_in 3 = .ok (.ifCond .lt 14, 3) := by decide +kernel
theorem dX12_in_6 : decode cX12_in 6 = .ok (.lload_n 0, 1) := by decide +kernel
theorem dX12_in_7 : decode cX12_in 7 = .ok (.lload 4, 2) := by decide +kernel
theorem dX12_in_9 : decode cX12_in 9 = .ok (.lcmp, 1) := by decide +kernel
theorem dX12_in_10 : decode cX12_in 10 = .ok (.ifCond .gt 7, 3) := by decide +kernel
theorem dX12_in_13 : decode cX12_in 13 = .ok (.iconst 1, 1) := by decide +kernel
theorem dX12_in_14 : decode cX12_in 14 = .ok (.goto 4, 3) := by decide +kernel
theorem dX12_in_17 : decode cX12_in 17 = .ok (.iconst 0, 1) := by decide +kernel
theorem dX12_in_18 : decode cX12_in 18 = .ok (.ireturn, 1) := by decide +kernel
theorem dX12_isPlace_0 : decode cX12_isPlace 0 = .ok (.iload_n 0, 1) := by decide +kernel
theorem dX12_isPlace_1 : decode cX12_isPlace 1 = .ok (.i2l, 1) := by decide +kernel
theorem dX12_isPlace_2 : decode cX12_isPlace 2 = .ok (.lconst 0, 1) := by decide +kernel
theorem dX12_isPlace_3 : decode cX12_isPlace 3 = .ok (.ldc2_w 115, 3) := by decide +kernel
theorem dX12_isPlace_6 : decode cX12_isPlace 6 = .ok (.invokestatic 117, 3) := by decide +kernel
theorem dX12_isPlace_9 : decode cX12_isPlace 9 = .ok (.ireturn, 1) := by decide +kernel
theorem dX12_isVersion_0 : decode cX12_isVersion 0 = .ok (.iload_n 0, 1) := by decide +kernel
theorem dX12_isVersion_1 : decode cX12_isVersion 1 = .ok (.i2l, 1) := by decide +kernel
theorem dX12_isVersion_2 : decode cX12_isVersion 2 = .ok (.lconst 0, 1) := by decide +kernel
theorem dX12_isVersion_3 : decode cX12_isVersion 3 = .ok (.ldc2_w 121, 3) := by decide +kernel
theorem dX12_isVersion_6 : decode cX12_isVersion 6 = .ok (.invokestatic 117, 3) := by decide +kernel
theorem dX12_isVersion_9 : decode cX12_isVersion 9 = .ok (.ireturn, 1) := by decide +kernel
theorem dX12_isRecordKind_0 : decode cX12_isRecordKind 0 = .ok (.lload_n 0, 1) := by decide +kernel
theorem dX12_isRecordKind_1 : decode cX12_isRecordKind 1 = .ok (.ldc2_w 121, 3) := by decide +kernel
theorem dX12_isRecordKind_4 : decode cX12_isRecordKind 4 = .ok (.ldc2_w 123, 3) := by decide +kernel
theorem dX12_isRecordKind_7 : decode cX12_isRecordKind 7 = .ok (.invokestatic 117, 3) := by decide +kernel
theorem dX12_isRecordKind_10 : decode cX12_isRecordKind 10 = .ok (.ireturn, 1) := by decide +kernel
theorem dX12_constantBy_0 : decode cX12_constantBy 0 = .ok (.iconst 3, 1) := by decide +kernel
theorem dX12_constantBy_1 : decode cX12_constantBy 1 = .ok (.iload_n 1, 1) := by decide +kernel
theorem dX12_constantBy_2 : decode cX12_constantBy 2 = .ok (.imul, 1) := by decide +kernel
theorem dX12_constantBy_3 : decode cX12_constantBy 3 = .ok (.iload_n 2, 1) := by decide +kernel
theorem dX12_constantBy_4 : decode cX12_constantBy 4 = .ok (.iadd, 1) := by decide +kernel
theorem dX12_constantBy_5 : decode cX12_constantBy 5 = .ok (.istore 5, 2) := by decide +kernel
theorem dX12_constantBy_7 : decode cX12_constantBy 7 = .ok (.iconst 0, 1) := by decide +kernel
theorem dX12_constantBy_8 : decode cX12_constantBy 8 = .ok (.istore 6, 2) := by decide +kernel
theorem dX12_constantBy_10 : decode cX12_constantBy 10 = .ok (.iload 6, 2) := by decide +kernel
theorem dX12_constantBy_12 : decode cX12_constantBy 12 = .ok (.aload_n 0, 1) := by decide +kernel
theorem dX12_constantBy_13 : decode cX12_constantBy 13 = .ok (.getfield 7, 3) := by decide +kernel
theorem dX12_constantBy_16 : decode cX12_constantBy 16 = .ok (.iload 5, 2) := by decide +kernel
theorem dX12_constantBy_18 : decode cX12_constantBy 18 = .ok (.iaload, 1) := by decide +kernel
theorem dX12_constantBy_19 : decode cX12_constantBy 19 = .ok (.if_icmp .ge 37, 3) := by decide +kernel
theorem dX12_constantBy_22 : decode cX12_constantBy 22 = .ok (.aload_n 0, 1) := by decide +kernel
theorem dX12_constantBy_23 : decode cX12_constantBy 23 = .ok (.getfield 13, 3) := by decide +kernel
theorem dX12_constantBy_26 : decode cX12_constantBy 26 = .ok (.bipush 10, 2) := by decide +kernel
theorem dX12_constantBy_28 : decode cX12_constantBy 28 = .ok (.iload 5, 2) := by decide +kernel
theorem dX12_constantBy_30 : decode cX12_constantBy 30 = .ok (.imul, 1) := by decide +kernel
theorem dX12_constantBy_31 : decode cX12_constantBy 31 = .ok (.iload 6, 2) := by decide +kernel
theorem dX12_constantBy_33 : decode cX12_constantBy 33 = .ok (.iadd, 1) := by decide +kernel
theorem dX12_constantBy_34 : decode cX12_constantBy 34 = .ok (.iaload, 1) := by decide +kernel
theorem dX12_constantBy_35 : decode cX12_constantBy 35 = .ok (.i2l, 1) := by decide +kernel
theorem dX12_constantBy_36 : decode cX12_constantBy 36 = .ok (.lload_n 3, 1) := by decide +kernel
theorem dX12_constantBy_37 : decode cX12_constantBy 37 = .ok (.lcmp, 1) := by decide +kernel
theorem dX12_constantBy_38 : decode cX12_constantBy 38 = .ok (.ifCond .ne 12, 3) := by decide +kernel
theorem dX12_constantBy_41 : decode cX12_constantBy 41 = .ok (.bipush 10, 2) := by decide +kernel
theorem dX12_constantBy_43 : decode cX12_constantBy 43 = .ok (.iload 5, 2) := by decide +kernel
theorem dX12_constantBy_45 : decode cX12_constantBy 45 = .ok (.imul, 1) := by decide +kernel
theorem dX12_constantBy_46 : decode cX12_constantBy 46 = .ok (.iload 6, 2) := by decide +kernel
theorem dX12_constantBy_48 : decode cX12_constantBy 48 = .ok (.iadd, 1) := by decide +kernel
theorem dX12_constantBy_49 : decode cX12_constantBy 49 = .ok (.ireturn, 1) := by decide +kernel
theorem dX12_constantBy_50 : decode cX12_constantBy 50 = .ok (.iinc 6 1, 3) := by decide +kernel
theorem dX12_constantBy_53 : decode cX12_constantBy 53 = .ok (.goto (-43), 3) := by decide +kernel
theorem dX12_constantBy_56 : decode cX12_constantBy 56 = .ok (.bipush (-3), 2) := by decide +kernel
theorem dX12_constantBy_58 : decode cX12_constantBy 58 = .ok (.ireturn, 1) := by decide +kernel
theorem dX12_constant_0 : decode cX12_constant 0 = .ok (.iload_n 1, 1) := by decide +kernel
theorem dX12_constant_1 : decode cX12_constant 1 = .ok (.i2l, 1) := by decide +kernel
theorem dX12_constant_2 : decode cX12_constant 2 = .ok (.lconst 0, 1) := by decide +kernel
theorem dX12_constant_3 : decode cX12_constant 3 = .ok (.lconst 1, 1) := by decide +kernel
theorem dX12_constant_4 : decode cX12_constant 4 = .ok (.invokestatic 117, 3) := by decide +kernel
theorem dX12_constant_7 : decode cX12_constant 7 = .ok (.ifCond .eq 33, 3) := by decide +kernel
theorem dX12_constant_10 : decode cX12_constant 10 = .ok (.iload_n 2, 1) := by decide +kernel
theorem dX12_constant_11 : decode cX12_constant 11 = .ok (.invokestatic 125, 3) := by decide +kernel
theorem dX12_constant_14 : decode cX12_constant 14 = .ok (.ifCond .eq 26, 3) := by decide +kernel
theorem dX12_constant_17 : decode cX12_constant 17 = .ok (.iload_n 3, 1) := by decide +kernel
theorem dX12_constant_18 : decode cX12_constant 18 = .ok (.i2l, 1) := by decide +kernel
theorem dX12_constant_19 : decode cX12_constant 19 = .ok (.lconst 0, 1) := by decide +kernel
theorem dX12_constant_20 : decode cX12_constant 20 = .ok (.ldc2_w 115, 3) := by decide +kernel
theorem dX12_constant_23 : decode cX12_constant 23 = .ok (.invokestatic 117, 3) := by decide +kernel
theorem dX12_constant_26 : decode cX12_constant 26 = .ok (.ifCond .eq 14, 3) := by decide +kernel
theorem dX12_constant_29 : decode cX12_constant 29 = .ok (.aload_n 0, 1) := by decide +kernel
theorem dX12_constant_30 : decode cX12_constant 30 = .ok (.iload_n 1, 1) := by decide +kernel
theorem dX12_constant_31 : decode cX12_constant 31 = .ok (.iload_n 2, 1) := by decide +kernel
theorem dX12_constant_32 : decode cX12_constant 32 = .ok (.iload_n 3, 1) := by decide +kernel
theorem dX12_constant_33 : decode cX12_constant 33 = .ok (.i2l, 1) := by decide +kernel
theorem dX12_constant_34 : decode cX12_constant 34 = .ok (.invokevirtual 129, 3) := by decide +kernel
theorem dX12_constant_37 : decode cX12_constant 37 = .ok (.ifCond .lt 5, 3) := by decide +kernel
theorem dX12_constant_40 : decode cX12_constant 40 = .ok (.iconst (-1), 1) := by decide +kernel
theorem dX12_constant_41 : decode cX12_constant 41 = .ok (.ireturn, 1) := by decide +kernel
theorem dX12_constant_42 : decode cX12_constant 42 = .ok (.iconst 3, 1) := by decide +kernel
theorem dX12_constant_43 : decode cX12_constant 43 = .ok (.iload_n 1, 1) := by decide +kernel
theorem dX12_constant_44 : decode cX12_constant 44 = .ok (.imul, 1) := by decide +kernel
theorem dX12_constant_45 : decode cX12_constant 45 = .ok (.iload_n 2, 1) := by decide +kernel
theorem dX12_constant_46 : decode cX12_constant 46 = .ok (.iadd, 1) := by decide +kernel
theorem dX12_constant_47 : decode cX12_constant 47 = .ok (.istore 5, 2) := by decide +kernel
theorem dX12_constant_49 : decode cX12_constant 49 = .ok (.aload_n 0, 1) := by decide +kernel
theorem dX12_constant_50 : decode cX12_constant 50 = .ok (.getfield 7, 3) := by decide +kernel
theorem dX12_constant_53 : decode cX12_constant 53 = .ok (.iload 5, 2) := by decide +kernel
theorem dX12_constant_55 : decode cX12_constant 55 = .ok (.iaload, 1) := by decide +kernel
theorem dX12_constant_56 : decode cX12_constant 56 = .ok (.istore 6, 2) := by decide +kernel
theorem dX12_constant_58 : decode cX12_constant 58 = .ok (.aload_n 0, 1) := by decide +kernel
theorem dX12_constant_59 : decode cX12_constant 59 = .ok (.getfield 13, 3) := by decide +kernel
theorem dX12_constant_62 : decode cX12_constant 62 = .ok (.bipush 10, 2) := by decide +kernel
theorem dX12_constant_64 : decode cX12_constant 64 = .ok (.iload 5, 2) := by decide +kernel
theorem dX12_constant_66 : decode cX12_constant 66 = .ok (.imul, 1) := by decide +kernel
theorem dX12_constant_67 : decode cX12_constant 67 = .ok (.iload 6, 2) := by decide +kernel
theorem dX12_constant_69 : decode cX12_constant 69 = .ok (.iadd, 1) := by decide +kernel
theorem dX12_constant_70 : decode cX12_constant 70 = .ok (.iload_n 3, 1) := by decide +kernel
theorem dX12_constant_71 : decode cX12_constant 71 = .ok (.iastore, 1) := by decide +kernel
theorem dX12_constant_72 : decode cX12_constant 72 = .ok (.aload_n 0, 1) := by decide +kernel
theorem dX12_constant_73 : decode cX12_constant 73 = .ok (.getfield 16, 3) := by decide +kernel
theorem dX12_constant_76 : decode cX12_constant 76 = .ok (.bipush 10, 2) := by decide +kernel
theorem dX12_constant_78 : decode cX12_constant 78 = .ok (.iload 5, 2) := by decide +kernel
theorem dX12_constant_80 : decode cX12_constant 80 = .ok (.imul, 1) := by decide +kernel
theorem dX12_constant_81 : decode cX12_constant 81 = .ok (.iload 6, 2) := by decide +kernel
theorem dX12_constant_83 : decode cX12_constant 83 = .ok (.iadd, 1) := by decide +kernel
theorem dX12_constant_84 : decode cX12_constant 84 = .ok (.iload 4, 2) := by decide +kernel
theorem dX12_constant_86 : decode cX12_constant 86 = .ok (.bastore, 1) := by decide +kernel
theorem dX12_constant_87 : decode cX12_constant 87 = .ok (.aload_n 0, 1) := by decide +kernel
theorem dX12_constant_88 : decode cX12_constant 88 = .ok (.getfield 7, 3) := by decide +kernel
theorem dX12_constant_91 : decode cX12_constant 91 = .ok (.iload 5, 2) := by decide +kernel
theorem dX12_constant_93 : decode cX12_constant 93 = .ok (.dup2, 1) := by decide +kernel
theorem dX12_constant_94 : decode cX12_constant 94 = .ok (.iaload, 1) := by decide +kernel
theorem dX12_constant_95 : decode cX12_constant 95 = .ok (.iconst 1, 1) := by decide +kernel
theorem dX12_constant_96 : decode cX12_constant 96 = .ok (.iadd, 1) := by decide +kernel
theorem dX12_constant_97 : decode cX12_constant 97 = .ok (.iastore, 1) := by decide +kernel
theorem dX12_constant_98 : decode cX12_constant 98 = .ok (.iload 6, 2) := by decide +kernel
theorem dX12_constant_100 : decode cX12_constant 100 = .ok (.ireturn, 1) := by decide +kernel
theorem dX12_partBy_0 : decode cX12_partBy 0 = .ok (.iconst 0, 1) := by decide +kernel
theorem dX12_partBy_1 : decode cX12_partBy 1 = .ok (.istore 4, 2) := by decide +kernel
theorem dX12_partBy_3 : decode cX12_partBy 3 = .ok (.iload 4, 2) := by decide +kernel
theorem dX12_partBy_5 : decode cX12_partBy 5 = .ok (.aload_n 0, 1) := by decide +kernel
theorem dX12_partBy_6 : decode cX12_partBy 6 = .ok (.getfield 20, 3) := by decide +kernel
theorem dX12_partBy_9 : decode cX12_partBy 9 = .ok (.iload_n 1, 1) := by decide +kernel
theorem dX12_partBy_10 : decode cX12_partBy 10 = .ok (.iaload, 1) := by decide +kernel
theorem dX12_partBy_11 : decode cX12_partBy 11 = .ok (.if_icmp .ge 29, 3) := by decide +kernel
theorem dX12_partBy_14 : decode cX12_partBy 14 = .ok (.aload_n 0, 1) := by decide +kernel
theorem dX12_partBy_15 : decode cX12_partBy 15 = .ok (.getfield 23, 3) := by decide +kernel
theorem dX12_partBy_18 : decode cX12_partBy 18 = .ok (.iconst 5, 1) := by decide +kernel
theorem dX12_partBy_19 : decode cX12_partBy 19 = .ok (.iload_n 1, 1) := by decide +kernel
theorem dX12_partBy_20 : decode cX12_partBy 20 = .ok (.imul, 1) := by decide +kernel
theorem dX12_partBy_21 : decode cX12_partBy 21 = .ok (.iload 4, 2) := by decide +kernel
theorem dX12_partBy_23 : decode cX12_partBy 23 = .ok (.iadd, 1) := by decide +kernel
theorem dX12_partBy_24 : decode cX12_partBy 24 = .ok (.iaload, 1) := by decide +kernel
theorem dX12_partBy_25 : decode cX12_partBy 25 = .ok (.i2l, 1) := by decide +kernel
theorem dX12_partBy_26 : decode cX12_partBy 26 = .ok (.lload_n 2, 1) := by decide +kernel
theorem dX12_partBy_27 : decode cX12_partBy 27 = .ok (.lcmp, 1) := by decide +kernel
theorem dX12_partBy_28 : decode cX12_partBy 28 = .ok (.ifCond .ne 6, 3) := by decide +kernel
theorem dX12_partBy_31 : decode cX12_partBy 31 = .ok (.iload 4, 2) := by decide +kernel
theorem dX12_partBy_33 : decode cX12_partBy 33 = .ok (.ireturn, 1) := by decide +kernel
theorem dX12_partBy_34 : decode cX12_partBy 34 = .ok (.iinc 4 1, 3) := by decide +kernel
theorem dX12_partBy_37 : decode cX12_partBy 37 = .ok (.goto (-34), 3) := by decide +kernel
theorem dX12_partBy_40 : decode cX12_partBy 40 = .ok (.bipush (-3), 2) := by decide +kernel
theorem dX12_partBy_42 : decode cX12_partBy 42 = .ok (.ireturn, 1) := by decide +kernel
theorem dX12_part_0 : decode cX12_part 0 = .ok (.iload_n 1, 1) := by decide +kernel
theorem dX12_part_1 : decode cX12_part 1 = .ok (.i2l, 1) := by decide +kernel
theorem dX12_part_2 : decode cX12_part 2 = .ok (.invokestatic 133, 3) := by decide +kernel
theorem dX12_part_5 : decode cX12_part 5 = .ok (.ifCond .eq 67, 3) := by decide +kernel
theorem dX12_part_8 : decode cX12_part 8 = .ok (.iload_n 2, 1) := by decide +kernel
theorem dX12_part_9 : decode cX12_part 9 = .ok (.invokestatic 125, 3) := by decide +kernel
theorem dX12_part_12 : decode cX12_part 12 = .ok (.ifCond .eq 60, 3) := by decide +kernel
theorem dX12_part_15 : decode cX12_part 15 = .ok (.iload_n 3, 1) := by decide +kernel
theorem dX12_part_16 : decode cX12_part 16 = .ok (.i2l, 1) := by decide +kernel
theorem dX12_part_17 : decode cX12_part 17 = .ok (.lconst 0, 1) := by decide +kernel
theorem dX12_part_18 : decode cX12_part 18 = .ok (.ldc2_w 115, 3) := by decide +kernel
theorem dX12_part_21 : decode cX12_part 21 = .ok (.invokestatic 117, 3) := by decide +kernel
theorem dX12_part_24 : decode cX12_part 24 = .ok (.ifCond .eq 48, 3) := by decide +kernel
theorem dX12_part_27 : decode cX12_part 27 = .ok (.iload 4, 2) := by decide +kernel
theorem dX12_part_29 : decode cX12_part 29 = .ok (.i2l, 1) := by decide +kernel
theorem dX12_part_30 : decode cX12_part 30 = .ok (.lconst 0, 1) := by decide +kernel
theorem dX12_part_31 : decode cX12_part 31 = .ok (.ldc2_w 137, 3) := by decide +kernel
theorem dX12_part_34 : decode cX12_part 34 = .ok (.invokestatic 117, 3) := by decide +kernel
theorem dX12_part_37 : decode cX12_part 37 = .ok (.ifCond .eq 35, 3) := by decide +kernel
theorem dX12_part_40 : decode cX12_part 40 = .ok (.iload 4, 2) := by decide +kernel
theorem dX12_part_42 : decode cX12_part 42 = .ok (.iconst 2, 1) := by decide +kernel
theorem dX12_part_43 : decode cX12_part 43 = .ok (.if_icmp .ne 14, 3) := by decide +kernel
theorem dX12_part_46 : decode cX12_part 46 = .ok (.iload 5, 2) := by decide +kernel
theorem dX12_part_48 : decode cX12_part 48 = .ok (.i2l, 1) := by decide +kernel
theorem dX12_part_49 : decode cX12_part 49 = .ok (.lconst 0, 1) := by decide +kernel
theorem dX12_part_50 : decode cX12_part 50 = .ok (.lconst 1, 1) := by decide +kernel
theorem dX12_part_51 : decode cX12_part 51 = .ok (.invokestatic 117, 3) := by decide +kernel
theorem dX12_part_54 : decode cX12_part 54 = .ok (.ifCond .eq 18, 3) := by decide +kernel
theorem dX12_part_57 : decode cX12_part 57 = .ok (.iload 4, 2) := by decide +kernel
theorem dX12_part_59 : decode cX12_part 59 = .ok (.iconst 3, 1) := by decide +kernel
theorem dX12_part_60 : decode cX12_part 60 = .ok (.if_icmp .ne 14, 3) := by decide +kernel
theorem dX12_part_63 : decode cX12_part 63 = .ok (.iload 5, 2) := by decide +kernel
theorem dX12_part_65 : decode cX12_part 65 = .ok (.i2l, 1) := by decide +kernel
theorem dX12_part_66 : decode cX12_part 66 = .ok (.invokestatic 133, 3) := by decide +kernel
theorem dX12_part_69 : decode cX12_part 69 = .ok (.ifCond .ne 5, 3) := by decide +kernel
theorem dX12_part_72 : decode cX12_part 72 = .ok (.iconst (-1), 1) := by decide +kernel
theorem dX12_part_73 : decode cX12_part 73 = .ok (.ireturn, 1) := by decide +kernel
theorem dX12_part_74 : decode cX12_part 74 = .ok (.iconst 3, 1) := by decide +kernel
theorem dX12_part_75 : decode cX12_part 75 = .ok (.iload_n 1, 1) := by decide +kernel
theorem dX12_part_76 : decode cX12_part 76 = .ok (.iconst 2, 1) := by decide +kernel
theorem dX12_part_77 : decode cX12_part 77 = .ok (.isub, 1) := by decide +kernel
theorem dX12_part_78 : decode cX12_part 78 = .ok (.imul, 1) := by decide +kernel
theorem dX12_part_79 : decode cX12_part 79 = .ok (.iload_n 2, 1) := by decide +kernel
theorem dX12_part_80 : decode cX12_part 80 = .ok (.iadd, 1) := by decide +kernel
theorem dX12_part_81 : decode cX12_part 81 = .ok (.istore 6, 2) := by decide +kernel
theorem dX12_part_83 : decode cX12_part 83 = .ok (.aload_n 0, 1) := by decide +kernel
theorem dX12_part_84 : decode cX12_part 84 = .ok (.iload 6, 2) := by decide +kernel
theorem dX12_part_86 : decode cX12_part 86 = .ok (.iload_n 3, 1) := by decide +kernel
theorem dX12_part_87 : decode cX12_part 87 = .ok (.i2l, 1) := by decide +kernel
theorem dX12_part_88 : decode cX12_part 88 = .ok (.invokevirtual 139, 3) := by decide +kernel
theorem dX12_part_91 : decode cX12_part 91 = .ok (.ifCond .lt 5, 3) := by decide +kernel
theorem dX12_part_94 : decode cX12_part 94 = .ok (.iconst (-1), 1) := by decide +kernel
theorem dX12_part_95 : decode cX12_part 95 = .ok (.ireturn, 1) := by decide +kernel
theorem dX12_part_96 : decode cX12_part 96 = .ok (.aload_n 0, 1) := by decide +kernel
theorem dX12_part_97 : decode cX12_part 97 = .ok (.getfield 20, 3) := by decide +kernel
theorem dX12_part_100 : decode cX12_part 100 = .ok (.iload 6, 2) := by decide +kernel
theorem dX12_part_102 : decode cX12_part 102 = .ok (.iaload, 1) := by decide +kernel
theorem dX12_part_103 : decode cX12_part 103 = .ok (.iconst 5, 1) := by decide +kernel
theorem dX12_part_104 : decode cX12_part 104 = .ok (.if_icmp .ne 6, 3) := by decide +kernel
theorem dX12_part_107 : decode cX12_part 107 = .ok (.bipush (-2), 2) := by decide +kernel
theorem dX12_part_109 : decode cX12_part 109 = .ok (.ireturn, 1) := by decide +kernel
theorem dX12_part_110 : decode cX12_part 110 = .ok (.aload_n 0, 1) := by decide +kernel
theorem dX12_part_111 : decode cX12_part 111 = .ok (.getfield 20, 3) := by decide +kernel
theorem dX12_part_114 : decode cX12_part 114 = .ok (.iload 6, 2) := by decide +kernel
theorem dX12_part_116 : decode cX12_part 116 = .ok (.iaload, 1) := by decide +kernel
theorem dX12_part_117 : decode cX12_part 117 = .ok (.istore 7, 2) := by decide +kernel
theorem dX12_part_119 : decode cX12_part 119 = .ok (.aload_n 0, 1) := by decide +kernel
theorem dX12_part_120 : decode cX12_part 120 = .ok (.getfield 23, 3) := by decide +kernel
theorem dX12_part_123 : decode cX12_part 123 = .ok (.iconst 5, 1) := by decide +kernel
theorem dX12_part_124 : decode cX12_part 124 = .ok (.iload 6, 2) := by decide +kernel
theorem dX12_part_126 : decode cX12_part 126 = .ok (.imul, 1) := by decide +kernel
theorem dX12_part_127 : decode cX12_part 127 = .ok (.iload 7, 2) := by decide +kernel
theorem dX12_part_129 : decode cX12_part 129 = .ok (.iadd, 1) := by decide +kernel
theorem dX12_part_130 : decode cX12_part 130 = .ok (.iload_n 3, 1) := by decide +kernel
theorem dX12_part_131 : decode cX12_part 131 = .ok (.iastore, 1) := by decide +kernel
theorem dX12_part_132 : decode cX12_part 132 = .ok (.aload_n 0, 1) := by decide +kernel
theorem dX12_part_133 : decode cX12_part 133 = .ok (.getfield 26, 3) := by decide +kernel
theorem dX12_part_136 : decode cX12_part 136 = .ok (.iconst 5, 1) := by decide +kernel
theorem dX12_part_137 : decode cX12_part 137 = .ok (.iload 6, 2) := by decide +kernel
theorem dX12_part_139 : decode cX12_part 139 = .ok (.imul, 1) := by decide +kernel
theorem dX12_part_140 : decode cX12_part 140 = .ok (.iload 7, 2) := by decide +kernel
theorem dX12_part_142 : decode cX12_part 142 = .ok (.iadd, 1) := by decide +kernel
theorem dX12_part_143 : decode cX12_part 143 = .ok (.iload 4, 2) := by decide +kernel
theorem dX12_part_145 : decode cX12_part 145 = .ok (.iastore, 1) := by decide +kernel
theorem dX12_part_146 : decode cX12_part 146 = .ok (.aload_n 0, 1) := by decide +kernel
theorem dX12_part_147 : decode cX12_part 147 = .ok (.getfield 29, 3) := by decide +kernel
theorem dX12_part_150 : decode cX12_part 150 = .ok (.iconst 5, 1) := by decide +kernel
theorem dX12_part_151 : decode cX12_part 151 = .ok (.iload 6, 2) := by decide +kernel
theorem dX12_part_153 : decode cX12_part 153 = .ok (.imul, 1) := by decide +kernel
theorem dX12_part_154 : decode cX12_part 154 = .ok (.iload 7, 2) := by decide +kernel
theorem dX12_part_156 : decode cX12_part 156 = .ok (.iadd, 1) := by decide +kernel
theorem dX12_part_157 : decode cX12_part 157 = .ok (.iload 5, 2) := by decide +kernel
theorem dX12_part_159 : decode cX12_part 159 = .ok (.iastore, 1) := by decide +kernel
theorem dX12_part_160 : decode cX12_part 160 = .ok (.aload_n 0, 1) := by decide +kernel
theorem dX12_part_161 : decode cX12_part 161 = .ok (.getfield 20, 3) := by decide +kernel
theorem dX12_part_164 : decode cX12_part 164 = .ok (.iload 6, 2) := by decide +kernel
theorem dX12_part_166 : decode cX12_part 166 = .ok (.dup2, 1) := by decide +kernel
theorem dX12_part_167 : decode cX12_part 167 = .ok (.iaload, 1) := by decide +kernel
theorem dX12_part_168 : decode cX12_part 168 = .ok (.iconst 1, 1) := by decide +kernel
theorem dX12_part_169 : decode cX12_part 169 = .ok (.iadd, 1) := by decide +kernel
theorem dX12_part_170 : decode cX12_part 170 = .ok (.iastore, 1) := by decide +kernel
theorem dX12_part_171 : decode cX12_part 171 = .ok (.iload 7, 2) := by decide +kernel
theorem dX12_part_173 : decode cX12_part 173 = .ok (.ireturn, 1) := by decide +kernel
theorem dX12_isSort_0 : decode cX12_isSort 0 = .ok (.iload_n 2, 1) := by decide +kernel
theorem dX12_isSort_1 : decode cX12_isSort 1 = .ok (.i2l, 1) := by decide +kernel
theorem dX12_isSort_2 : decode cX12_isSort 2 = .ok (.lconst 0, 1) := by decide +kernel
theorem dX12_isSort_3 : decode cX12_isSort 3 = .ok (.aload_n 0, 1) := by decide +kernel
theorem dX12_isSort_4 : decode cX12_isSort 4 = .ok (.getfield 20, 3) := by decide +kernel
theorem dX12_isSort_7 : decode cX12_isSort 7 = .ok (.iload_n 1, 1) := by decide +kernel
theorem dX12_isSort_8 : decode cX12_isSort 8 = .ok (.iaload, 1) := by decide +kernel
theorem dX12_isSort_9 : decode cX12_isSort 9 = .ok (.iconst 1, 1) := by decide +kernel
theorem dX12_isSort_10 : decode cX12_isSort 10 = .ok (.isub, 1) := by decide +kernel
theorem dX12_isSort_11 : decode cX12_isSort 11 = .ok (.i2l, 1) := by decide +kernel
theorem dX12_isSort_12 : decode cX12_isSort 12 = .ok (.invokestatic 117, 3) := by decide +kernel
theorem dX12_isSort_15 : decode cX12_isSort 15 = .ok (.ifCond .eq 21, 3) := by decide +kernel
theorem dX12_isSort_18 : decode cX12_isSort 18 = .ok (.aload_n 0, 1) := by decide +kernel
theorem dX12_isSort_19 : decode cX12_isSort 19 = .ok (.getfield 26, 3) := by decide +kernel
theorem dX12_isSort_22 : decode cX12_isSort 22 = .ok (.iconst 5, 1) := by decide +kernel
theorem dX12_isSort_23 : decode cX12_isSort 23 = .ok (.iload_n 1, 1) := by decide +kernel
theorem dX12_isSort_24 : decode cX12_isSort 24 = .ok (.imul, 1) := by decide +kernel
theorem dX12_isSort_25 : decode cX12_isSort 25 = .ok (.iload_n 2, 1) := by decide +kernel
theorem dX12_isSort_26 : decode cX12_isSort 26 = .ok (.iadd, 1) := by decide +kernel
theorem dX12_isSort_27 : decode cX12_isSort 27 = .ok (.iaload, 1) := by decide +kernel
theorem dX12_isSort_28 : decode cX12_isSort 28 = .ok (.iload_n 3, 1) := by decide +kernel
theorem dX12_isSort_29 : decode cX12_isSort 29 = .ok (.if_icmp .ne 7, 3) := by decide +kernel
theorem dX12_isSort_32 : decode cX12_isSort 32 = .ok (.iconst 1, 1) := by decide +kernel
theorem dX12_isSort_33 : decode cX12_isSort 33 = .ok (.goto 4, 3) := by decide +kernel
theorem dX12_isSort_36 : decode cX12_isSort 36 = .ok (.iconst 0, 1) := by decide +kernel
theorem dX12_isSort_37 : decode cX12_isSort 37 = .ok (.ireturn, 1) := by decide +kernel
theorem dX12_check_0 : decode cX12_check 0 = .ok (.iload_n 1, 1) := by decide +kernel
theorem dX12_check_1 : decode cX12_check 1 = .ok (.i2l, 1) := by decide +kernel
theorem dX12_check_2 : decode cX12_check 2 = .ok (.invokestatic 133, 3) := by decide +kernel
theorem dX12_check_5 : decode cX12_check 5 = .ok (.ifCond .eq 22, 3) := by decide +kernel
theorem dX12_check_8 : decode cX12_check 8 = .ok (.iload_n 2, 1) := by decide +kernel
theorem dX12_check_9 : decode cX12_check 9 = .ok (.invokestatic 125, 3) := by decide +kernel
theorem dX12_check_12 : decode cX12_check 12 = .ok (.ifCond .eq 15, 3) := by decide +kernel
theorem dX12_check_15 : decode cX12_check 15 = .ok (.iload_n 3, 1) := by decide +kernel
theorem dX12_check_16 : decode cX12_check 16 = .ok (.i2l, 1) := by decide +kernel
theorem dX12_check_17 : decode cX12_check 17 = .ok (.lconst 0, 1) := by decide +kernel
theorem dX12_check_18 : decode cX12_check 18 = .ok (.ldc2_w 137, 3) := by decide +kernel
theorem dX12_check_21 : decode cX12_check 21 = .ok (.invokestatic 117, 3) := by decide +kernel
theorem dX12_check_24 : decode cX12_check 24 = .ok (.ifCond .ne 5, 3) := by decide +kernel
theorem dX12_check_27 : decode cX12_check 27 = .ok (.iconst (-1), 1) := by decide +kernel
theorem dX12_check_28 : decode cX12_check 28 = .ok (.ireturn, 1) := by decide +kernel
theorem dX12_check_29 : decode cX12_check 29 = .ok (.iconst 3, 1) := by decide +kernel
theorem dX12_check_30 : decode cX12_check 30 = .ok (.iload_n 1, 1) := by decide +kernel
theorem dX12_check_31 : decode cX12_check 31 = .ok (.iconst 2, 1) := by decide +kernel
theorem dX12_check_32 : decode cX12_check 32 = .ok (.isub, 1) := by decide +kernel
theorem dX12_check_33 : decode cX12_check 33 = .ok (.imul, 1) := by decide +kernel
theorem dX12_check_34 : decode cX12_check 34 = .ok (.iload_n 2, 1) := by decide +kernel
theorem dX12_check_35 : decode cX12_check 35 = .ok (.iadd, 1) := by decide +kernel
theorem dX12_check_36 : decode cX12_check 36 = .ok (.istore 6, 2) := by decide +kernel
theorem dX12_check_38 : decode cX12_check 38 = .ok (.iload_n 3, 1) := by decide +kernel
theorem dX12_check_39 : decode cX12_check 39 = .ok (.iconst 2, 1) := by decide +kernel
theorem dX12_check_40 : decode cX12_check 40 = .ok (.if_icmp .ge 7, 3) := by decide +kernel
theorem dX12_check_43 : decode cX12_check 43 = .ok (.iconst 0, 1) := by decide +kernel
theorem dX12_check_44 : decode cX12_check 44 = .ok (.goto 22, 3) := by decide +kernel
theorem dX12_check_47 : decode cX12_check 47 = .ok (.iload_n 3, 1) := by decide +kernel
theorem dX12_check_48 : decode cX12_check 48 = .ok (.iconst 2, 1) := by decide +kernel
theorem dX12_check_49 : decode cX12_check 49 = .ok (.if_icmp .ne 7, 3) := by decide +kernel
theorem dX12_check_52 : decode cX12_check 52 = .ok (.iconst 4, 1) := by decide +kernel
theorem dX12_check_53 : decode cX12_check 53 = .ok (.goto 13, 3) := by decide +kernel
theorem dX12_check_56 : decode cX12_check 56 = .ok (.iload_n 3, 1) := by decide +kernel
theorem dX12_check_57 : decode cX12_check 57 = .ok (.iconst 3, 1) := by decide +kernel
theorem dX12_check_58 : decode cX12_check 58 = .ok (.if_icmp .ne 7, 3) := by decide +kernel
theorem dX12_check_61 : decode cX12_check 61 = .ok (.iconst 3, 1) := by decide +kernel
theorem dX12_check_62 : decode cX12_check 62 = .ok (.goto 4, 3) := by decide +kernel
theorem dX12_check_65 : decode cX12_check 65 = .ok (.iconst 2, 1) := by decide +kernel
theorem dX12_check_66 : decode cX12_check 66 = .ok (.istore 7, 2) := by decide +kernel
theorem dX12_check_68 : decode cX12_check 68 = .ok (.aload_n 0, 1) := by decide +kernel
theorem dX12_check_69 : decode cX12_check 69 = .ok (.iload 6, 2) := by decide +kernel
theorem dX12_check_71 : decode cX12_check 71 = .ok (.iload 4, 2) := by decide +kernel
theorem dX12_check_73 : decode cX12_check 73 = .ok (.iload 7, 2) := by decide +kernel
theorem dX12_check_75 : decode cX12_check 75 = .ok (.invokevirtual 143, 3) := by decide +kernel
theorem dX12_check_78 : decode cX12_check 78 = .ok (.ifCond .eq 20, 3) := by decide +kernel
theorem dX12_check_81 : decode cX12_check 81 = .ok (.iload_n 3, 1) := by decide +kernel
theorem dX12_check_82 : decode cX12_check 82 = .ok (.iconst 1, 1) := by decide +kernel
theorem dX12_check_83 : decode cX12_check 83 = .ok (.if_icmp .eq 17, 3) := by decide +kernel
theorem dX12_check_86 : decode cX12_check 86 = .ok (.aload_n 0, 1) := by decide +kernel
theorem dX12_check_87 : decode cX12_check 87 = .ok (.iload 6, 2) := by decide +kernel
theorem dX12_check_89 : decode cX12_check 89 = .ok (.iload 5, 2) := by decide +kernel
theorem dX12_check_91 : decode cX12_check 91 = .ok (.iconst 0, 1) := by decide +kernel
theorem dX12_check_92 : decode cX12_check 92 = .ok (.invokevirtual 143, 3) := by decide +kernel
theorem dX12_check_95 : decode cX12_check 95 = .ok (.ifCond .ne 5, 3) := by decide +kernel
theorem dX12_check_98 : decode cX12_check 98 = .ok (.iconst (-1), 1) := by decide +kernel
theorem dX12_check_99 : decode cX12_check 99 = .ok (.ireturn, 1) := by decide +kernel
theorem dX12_check_100 : decode cX12_check 100 = .ok (.aload_n 0, 1) := by decide +kernel
theorem dX12_check_101 : decode cX12_check 101 = .ok (.getfield 32, 3) := by decide +kernel
theorem dX12_check_104 : decode cX12_check 104 = .ok (.iload 6, 2) := by decide +kernel
theorem dX12_check_106 : decode cX12_check 106 = .ok (.iaload, 1) := by decide +kernel
theorem dX12_check_107 : decode cX12_check 107 = .ok (.iconst 2, 1) := by decide +kernel
theorem dX12_check_108 : decode cX12_check 108 = .ok (.if_icmp .ne 6, 3) := by decide +kernel
theorem dX12_check_111 : decode cX12_check 111 = .ok (.bipush (-2), 2) := by decide +kernel
theorem dX12_check_113 : decode cX12_check 113 = .ok (.ireturn, 1) := by decide +kernel
theorem dX12_check_114 : decode cX12_check 114 = .ok (.aload_n 0, 1) := by decide +kernel
theorem dX12_check_115 : decode cX12_check 115 = .ok (.getfield 32, 3) := by decide +kernel
theorem dX12_check_118 : decode cX12_check 118 = .ok (.iload 6, 2) := by decide +kernel
theorem dX12_check_120 : decode cX12_check 120 = .ok (.iaload, 1) := by decide +kernel
theorem dX12_check_121 : decode cX12_check 121 = .ok (.istore 8, 2) := by decide +kernel
theorem dX12_check_123 : decode cX12_check 123 = .ok (.aload_n 0, 1) := by decide +kernel
theorem dX12_check_124 : decode cX12_check 124 = .ok (.getfield 35, 3) := by decide +kernel
theorem dX12_check_127 : decode cX12_check 127 = .ok (.iconst 2, 1) := by decide +kernel
theorem dX12_check_128 : decode cX12_check 128 = .ok (.iload 6, 2) := by decide +kernel
theorem dX12_check_130 : decode cX12_check 130 = .ok (.imul, 1) := by decide +kernel
theorem dX12_check_131 : decode cX12_check 131 = .ok (.iload 8, 2) := by decide +kernel
theorem dX12_check_133 : decode cX12_check 133 = .ok (.iadd, 1) := by decide +kernel
theorem dX12_check_134 : decode cX12_check 134 = .ok (.iload_n 3, 1) := by decide +kernel
theorem dX12_check_135 : decode cX12_check 135 = .ok (.iastore, 1) := by decide +kernel
theorem dX12_check_136 : decode cX12_check 136 = .ok (.aload_n 0, 1) := by decide +kernel
theorem dX12_check_137 : decode cX12_check 137 = .ok (.getfield 38, 3) := by decide +kernel
theorem dX12_check_140 : decode cX12_check 140 = .ok (.iconst 2, 1) := by decide +kernel
theorem dX12_check_141 : decode cX12_check 141 = .ok (.iload 6, 2) := by decide +kernel
theorem dX12_check_143 : decode cX12_check 143 = .ok (.imul, 1) := by decide +kernel
theorem dX12_check_144 : decode cX12_check 144 = .ok (.iload 8, 2) := by decide +kernel
theorem dX12_check_146 : decode cX12_check 146 = .ok (.iadd, 1) := by decide +kernel
theorem dX12_check_147 : decode cX12_check 147 = .ok (.iload 4, 2) := by decide +kernel
theorem dX12_check_149 : decode cX12_check 149 = .ok (.iastore, 1) := by decide +kernel
theorem dX12_check_150 : decode cX12_check 150 = .ok (.aload_n 0, 1) := by decide +kernel
theorem dX12_check_151 : decode cX12_check 151 = .ok (.getfield 41, 3) := by decide +kernel
theorem dX12_check_154 : decode cX12_check 154 = .ok (.iconst 2, 1) := by decide +kernel
theorem dX12_check_155 : decode cX12_check 155 = .ok (.iload 6, 2) := by decide +kernel
theorem dX12_check_157 : decode cX12_check 157 = .ok (.imul, 1) := by decide +kernel
theorem dX12_check_158 : decode cX12_check 158 = .ok (.iload 8, 2) := by decide +kernel
theorem dX12_check_160 : decode cX12_check 160 = .ok (.iadd, 1) := by decide +kernel
theorem dX12_check_161 : decode cX12_check 161 = .ok (.iload 5, 2) := by decide +kernel
theorem dX12_check_163 : decode cX12_check 163 = .ok (.iastore, 1) := by decide +kernel
theorem dX12_check_164 : decode cX12_check 164 = .ok (.aload_n 0, 1) := by decide +kernel
theorem dX12_check_165 : decode cX12_check 165 = .ok (.getfield 32, 3) := by decide +kernel
theorem dX12_check_168 : decode cX12_check 168 = .ok (.iload 6, 2) := by decide +kernel
theorem dX12_check_170 : decode cX12_check 170 = .ok (.dup2, 1) := by decide +kernel
theorem dX12_check_171 : decode cX12_check 171 = .ok (.iaload, 1) := by decide +kernel
theorem dX12_check_172 : decode cX12_check 172 = .ok (.iconst 1, 1) := by decide +kernel
theorem dX12_check_173 : decode cX12_check 173 = .ok (.iadd, 1) := by decide +kernel
theorem dX12_check_174 : decode cX12_check 174 = .ok (.iastore, 1) := by decide +kernel
theorem dX12_check_175 : decode cX12_check 175 = .ok (.iload 8, 2) := by decide +kernel
theorem dX12_check_177 : decode cX12_check 177 = .ok (.ireturn, 1) := by decide +kernel
theorem dX12_familyOf_0 : decode cX12_familyOf 0 = .ok (.iload_n 1, 1) := by decide +kernel
theorem dX12_familyOf_1 : decode cX12_familyOf 1 = .ok (.iconst (-1), 1) := by decide +kernel
theorem dX12_familyOf_2 : decode cX12_familyOf 2 = .ok (.if_icmp .ne 7, 3) := by decide +kernel
theorem dX12_familyOf_5 : decode cX12_familyOf 5 = .ok (.iconst 0, 1) := by decide +kernel
theorem dX12_familyOf_6 : decode cX12_familyOf 6 = .ok (.goto 37, 3) := by decide +kernel
theorem dX12_familyOf_9 : decode cX12_familyOf 9 = .ok (.iload_n 1, 1) := by decide +kernel
theorem dX12_familyOf_10 : decode cX12_familyOf 10 = .ok (.bipush 100, 2) := by decide +kernel
theorem dX12_familyOf_12 : decode cX12_familyOf 12 = .ok (.if_icmp .ge 20, 3) := by decide +kernel
theorem dX12_familyOf_15 : decode cX12_familyOf 15 = .ok (.aload_n 0, 1) := by decide +kernel
theorem dX12_familyOf_16 : decode cX12_familyOf 16 = .ok (.getfield 16, 3) := by decide +kernel
theorem dX12_familyOf_19 : decode cX12_familyOf 19 = .ok (.iload_n 1, 1) := by decide +kernel
theorem dX12_familyOf_20 : decode cX12_familyOf 20 = .ok (.baload, 1) := by decide +kernel
theorem dX12_familyOf_21 : decode cX12_familyOf 21 = .ok (.ifCond .eq 7, 3) := by decide +kernel
theorem dX12_familyOf_24 : decode cX12_familyOf 24 = .ok (.iconst 2, 1) := by decide +kernel
theorem dX12_familyOf_25 : decode cX12_familyOf 25 = .ok (.goto 18, 3) := by decide +kernel
theorem dX12_familyOf_28 : decode cX12_familyOf 28 = .ok (.iconst 1, 1) := by decide +kernel
theorem dX12_familyOf_29 : decode cX12_familyOf 29 = .ok (.goto 14, 3) := by decide +kernel
theorem dX12_familyOf_32 : decode cX12_familyOf 32 = .ok (.iload_n 1, 1) := by decide +kernel
theorem dX12_familyOf_33 : decode cX12_familyOf 33 = .ok (.ldc 147, 2) := by decide +kernel
theorem dX12_familyOf_35 : decode cX12_familyOf 35 = .ok (.if_icmp .ge 7, 3) := by decide +kernel
theorem dX12_familyOf_38 : decode cX12_familyOf 38 = .ok (.iconst 3, 1) := by decide +kernel
theorem dX12_familyOf_39 : decode cX12_familyOf 39 = .ok (.goto 4, 3) := by decide +kernel
theorem dX12_familyOf_42 : decode cX12_familyOf 42 = .ok (.iconst 4, 1) := by decide +kernel
theorem dX12_familyOf_43 : decode cX12_familyOf 43 = .ok (.ireturn, 1) := by decide +kernel
theorem dX12_hold_0 : decode cX12_hold 0 = .ok (.iload_n 1, 1) := by decide +kernel
theorem dX12_hold_1 : decode cX12_hold 1 = .ok (.invokestatic 148, 3) := by decide +kernel
theorem dX12_hold_4 : decode cX12_hold 4 = .ok (.ifCond .eq 33, 3) := by decide +kernel
theorem dX12_hold_7 : decode cX12_hold 7 = .ok (.iload_n 2, 1) := by decide +kernel
theorem dX12_hold_8 : decode cX12_hold 8 = .ok (.i2l, 1) := by decide +kernel
theorem dX12_hold_9 : decode cX12_hold 9 = .ok (.lconst 0, 1) := by decide +kernel
theorem dX12_hold_10 : decode cX12_hold 10 = .ok (.lconst 1, 1) := by decide +kernel
theorem dX12_hold_11 : decode cX12_hold 11 = .ok (.invokestatic 117, 3) := by decide +kernel
theorem dX12_hold_14 : decode cX12_hold 14 = .ok (.ifCond .eq 23, 3) := by decide +kernel
theorem dX12_hold_17 : decode cX12_hold 17 = .ok (.iload_n 3, 1) := by decide +kernel
theorem dX12_hold_18 : decode cX12_hold 18 = .ok (.invokestatic 125, 3) := by decide +kernel
theorem dX12_hold_21 : decode cX12_hold 21 = .ok (.ifCond .eq 16, 3) := by decide +kernel
theorem dX12_hold_24 : decode cX12_hold 24 = .ok (.iload 4, 2) := by decide +kernel
theorem dX12_hold_26 : decode cX12_hold 26 = .ok (.i2l, 1) := by decide +kernel
theorem dX12_hold_27 : decode cX12_hold 27 = .ok (.lconst 0, 1) := by decide +kernel
theorem dX12_hold_28 : decode cX12_hold 28 = .ok (.ldc2_w 115, 3) := by decide +kernel
theorem dX12_hold_31 : decode cX12_hold 31 = .ok (.invokestatic 117, 3) := by decide +kernel
theorem dX12_hold_34 : decode cX12_hold 34 = .ok (.ifCond .ne 5, 3) := by decide +kernel
theorem dX12_hold_37 : decode cX12_hold 37 = .ok (.iconst (-1), 1) := by decide +kernel
theorem dX12_hold_38 : decode cX12_hold 38 = .ok (.ireturn, 1) := by decide +kernel
theorem dX12_hold_39 : decode cX12_hold 39 = .ok (.aload_n 0, 1) := by decide +kernel
theorem dX12_hold_40 : decode cX12_hold 40 = .ok (.iload_n 2, 1) := by decide +kernel
theorem dX12_hold_41 : decode cX12_hold 41 = .ok (.iload_n 3, 1) := by decide +kernel
theorem dX12_hold_42 : decode cX12_hold 42 = .ok (.iload 4, 2) := by decide +kernel
theorem dX12_hold_44 : decode cX12_hold 44 = .ok (.i2l, 1) := by decide +kernel
theorem dX12_hold_45 : decode cX12_hold 45 = .ok (.invokevirtual 129, 3) := by decide +kernel
theorem dX12_hold_48 : decode cX12_hold 48 = .ok (.istore 5, 2) := by decide +kernel
theorem dX12_hold_50 : decode cX12_hold 50 = .ok (.iload 5, 2) := by decide +kernel
theorem dX12_hold_52 : decode cX12_hold 52 = .ok (.ifCond .ge 6, 3) := by decide +kernel
theorem dX12_hold_55 : decode cX12_hold 55 = .ok (.bipush (-3), 2) := by decide +kernel
theorem dX12_hold_57 : decode cX12_hold 57 = .ok (.ireturn, 1) := by decide +kernel
theorem dX12_hold_58 : decode cX12_hold 58 = .ok (.aload_n 0, 1) := by decide +kernel
theorem dX12_hold_59 : decode cX12_hold 59 = .ok (.getfield 66, 3) := by decide +kernel
theorem dX12_hold_62 : decode cX12_hold 62 = .ok (.iload_n 1, 1) := by decide +kernel
theorem dX12_hold_63 : decode cX12_hold 63 = .ok (.iload 5, 2) := by decide +kernel
theorem dX12_hold_65 : decode cX12_hold 65 = .ok (.iastore, 1) := by decide +kernel
theorem dX12_hold_66 : decode cX12_hold 66 = .ok (.iload 5, 2) := by decide +kernel
theorem dX12_hold_68 : decode cX12_hold 68 = .ok (.bipush 10, 2) := by decide +kernel
theorem dX12_hold_70 : decode cX12_hold 70 = .ok (.irem, 1) := by decide +kernel
theorem dX12_hold_71 : decode cX12_hold 71 = .ok (.ireturn, 1) := by decide +kernel
theorem dX12_newRow_0 : decode cX12_newRow 0 = .ok (.aload_n 0, 1) := by decide +kernel
theorem dX12_newRow_1 : decode cX12_newRow 1 = .ok (.getfield 45, 3) := by decide +kernel
theorem dX12_newRow_4 : decode cX12_newRow 4 = .ok (.aload_n 0, 1) := by decide +kernel
theorem dX12_newRow_5 : decode cX12_newRow 5 = .ok (.getfield 151, 3) := by decide +kernel
theorem dX12_newRow_8 : decode cX12_newRow 8 = .ok (.iload_n 1, 1) := by decide +kernel
theorem dX12_newRow_9 : decode cX12_newRow 9 = .ok (.iastore, 1) := by decide +kernel
theorem dX12_newRow_10 : decode cX12_newRow 10 = .ok (.iconst 0, 1) := by decide +kernel
theorem dX12_newRow_11 : decode cX12_newRow 11 = .ok (.istore_n 2, 1) := by decide +kernel
theorem dX12_newRow_12 : decode cX12_newRow 12 = .ok (.iload_n 2, 1) := by decide +kernel
theorem dX12_newRow_13 : decode cX12_newRow 13 = .ok (.bipush 8, 2) := by decide +kernel
theorem dX12_newRow_15 : decode cX12_newRow 15 = .ok (.if_icmp .ge 24, 3) := by decide +kernel
theorem dX12_newRow_18 : decode cX12_newRow 18 = .ok (.aload_n 0, 1) := by decide +kernel
theorem dX12_newRow_19 : decode cX12_newRow 19 = .ok (.getfield 49, 3) := by decide +kernel
theorem dX12_newRow_22 : decode cX12_newRow 22 = .ok (.bipush 8, 2) := by decide +kernel
theorem dX12_newRow_24 : decode cX12_newRow 24 = .ok (.aload_n 0, 1) := by decide +kernel
theorem dX12_newRow_25 : decode cX12_newRow 25 = .ok (.getfield 151, 3) := by decide +kernel
theorem dX12_newRow_28 : decode cX12_newRow 28 = .ok (.imul, 1) := by decide +kernel
theorem dX12_newRow_29 : decode cX12_newRow 29 = .ok (.iload_n 2, 1) := by decide +kernel
theorem dX12_newRow_30 : decode cX12_newRow 30 = .ok (.iadd, 1) := by decide +kernel
theorem dX12_newRow_31 : decode cX12_newRow 31 = .ok (.iconst 0, 1) := by decide +kernel
theorem dX12_newRow_32 : decode cX12_newRow 32 = .ok (.iastore, 1) := by decide +kernel
theorem dX12_newRow_33 : decode cX12_newRow 33 = .ok (.iinc 2 1, 3) := by decide +kernel
theorem dX12_newRow_36 : decode cX12_newRow 36 = .ok (.goto (-24), 3) := by decide +kernel
theorem dX12_newRow_39 : decode cX12_newRow 39 = .ok (.aload_n 0, 1) := by decide +kernel
theorem dX12_newRow_40 : decode cX12_newRow 40 = .ok (.dup, 1) := by decide +kernel
theorem dX12_newRow_41 : decode cX12_newRow 41 = .ok (.getfield 151, 3) := by decide +kernel
theorem dX12_newRow_44 : decode cX12_newRow 44 = .ok (.iconst 1, 1) := by decide +kernel
theorem dX12_newRow_45 : decode cX12_newRow 45 = .ok (.iadd, 1) := by decide +kernel
theorem dX12_newRow_46 : decode cX12_newRow 46 = .ok (.putfield 151, 3) := by decide +kernel
theorem dX12_newRow_49 : decode cX12_newRow 49 = .ok (.bipush 100, 2) := by decide +kernel
theorem dX12_newRow_51 : decode cX12_newRow 51 = .ok (.aload_n 0, 1) := by decide +kernel
theorem dX12_newRow_52 : decode cX12_newRow 52 = .ok (.getfield 151, 3) := by decide +kernel
theorem dX12_newRow_55 : decode cX12_newRow 55 = .ok (.iadd, 1) := by decide +kernel
theorem dX12_newRow_56 : decode cX12_newRow 56 = .ok (.iconst 1, 1) := by decide +kernel
theorem dX12_newRow_57 : decode cX12_newRow 57 = .ok (.isub, 1) := by decide +kernel
theorem dX12_newRow_58 : decode cX12_newRow 58 = .ok (.ireturn, 1) := by decide +kernel
theorem dX12_row_0 : decode cX12_row 0 = .ok (.iload_n 1, 1) := by decide +kernel
theorem dX12_row_1 : decode cX12_row 1 = .ok (.invokestatic 148, 3) := by decide +kernel
theorem dX12_row_4 : decode cX12_row 4 = .ok (.ifCond .eq 21, 3) := by decide +kernel
theorem dX12_row_7 : decode cX12_row 7 = .ok (.iload_n 2, 1) := by decide +kernel
theorem dX12_row_8 : decode cX12_row 8 = .ok (.bipush (-3), 2) := by decide +kernel
theorem dX12_row_10 : decode cX12_row 10 = .ok (.if_icmp .eq 17, 3) := by decide +kernel
theorem dX12_row_13 : decode cX12_row 13 = .ok (.iload_n 2, 1) := by decide +kernel
theorem dX12_row_14 : decode cX12_row 14 = .ok (.i2l, 1) := by decide +kernel
theorem dX12_row_15 : decode cX12_row 15 = .ok (.lconst 0, 1) := by decide +kernel
theorem dX12_row_16 : decode cX12_row 16 = .ok (.ldc2_w 154, 3) := by decide +kernel
theorem dX12_row_19 : decode cX12_row 19 = .ok (.invokestatic 117, 3) := by decide +kernel
theorem dX12_row_22 : decode cX12_row 22 = .ok (.ifCond .ne 5, 3) := by decide +kernel
theorem dX12_row_25 : decode cX12_row 25 = .ok (.iconst (-1), 1) := by decide +kernel
theorem dX12_row_26 : decode cX12_row 26 = .ok (.ireturn, 1) := by decide +kernel
theorem dX12_row_27 : decode cX12_row 27 = .ok (.aload_n 0, 1) := by decide +kernel
theorem dX12_row_28 : decode cX12_row 28 = .ok (.getfield 66, 3) := by decide +kernel
theorem dX12_row_31 : decode cX12_row 31 = .ok (.iload_n 1, 1) := by decide +kernel
theorem dX12_row_32 : decode cX12_row 32 = .ok (.iload_n 2, 1) := by decide +kernel
theorem dX12_row_33 : decode cX12_row 33 = .ok (.bipush (-3), 2) := by decide +kernel
theorem dX12_row_35 : decode cX12_row 35 = .ok (.if_icmp .ne 7, 3) := by decide +kernel
theorem dX12_row_38 : decode cX12_row 38 = .ok (.iconst (-1), 1) := by decide +kernel
theorem dX12_row_39 : decode cX12_row 39 = .ok (.goto 8, 3) := by decide +kernel
theorem dX12_row_42 : decode cX12_row 42 = .ok (.aload_n 0, 1) := by decide +kernel
theorem dX12_row_43 : decode cX12_row 43 = .ok (.iload_n 2, 1) := by decide +kernel
theorem dX12_row_44 : decode cX12_row 44 = .ok (.invokevirtual 156, 3) := by decide +kernel
theorem dX12_row_47 : decode cX12_row 47 = .ok (.iastore, 1) := by decide +kernel
theorem dX12_row_48 : decode cX12_row 48 = .ok (.iconst 1, 1) := by decide +kernel
theorem dX12_row_49 : decode cX12_row 49 = .ok (.ireturn, 1) := by decide +kernel
theorem dX12_item_0 : decode cX12_item 0 = .ok (.iload_n 1, 1) := by decide +kernel
theorem dX12_item_1 : decode cX12_item 1 = .ok (.invokestatic 148, 3) := by decide +kernel
theorem dX12_item_4 : decode cX12_item 4 = .ok (.ifCond .eq 17, 3) := by decide +kernel
theorem dX12_item_7 : decode cX12_item 7 = .ok (.aload_n 0, 1) := by decide +kernel
theorem dX12_item_8 : decode cX12_item 8 = .ok (.aload_n 0, 1) := by decide +kernel
theorem dX12_item_9 : decode cX12_item 9 = .ok (.getfield 66, 3) := by decide +kernel
theorem dX12_item_12 : decode cX12_item 12 = .ok (.iload_n 1, 1) := by decide +kernel
theorem dX12_item_13 : decode cX12_item 13 = .ok (.iaload, 1) := by decide +kernel
theorem dX12_item_14 : decode cX12_item 14 = .ok (.invokevirtual 160, 3) := by decide +kernel
theorem dX12_item_17 : decode cX12_item 17 = .ok (.iconst 3, 1) := by decide +kernel
theorem dX12_item_18 : decode cX12_item 18 = .ok (.if_icmp .eq 5, 3) := by decide +kernel
theorem dX12_item_21 : decode cX12_item 21 = .ok (.iconst (-1), 1) := by decide +kernel
theorem dX12_item_22 : decode cX12_item 22 = .ok (.ireturn, 1) := by decide +kernel
theorem dX12_item_23 : decode cX12_item 23 = .ok (.aload_n 0, 1) := by decide +kernel
theorem dX12_item_24 : decode cX12_item 24 = .ok (.getfield 66, 3) := by decide +kernel
theorem dX12_item_27 : decode cX12_item 27 = .ok (.iload_n 1, 1) := by decide +kernel
theorem dX12_item_28 : decode cX12_item 28 = .ok (.iaload, 1) := by decide +kernel
theorem dX12_item_29 : decode cX12_item 29 = .ok (.bipush 100, 2) := by decide +kernel
theorem dX12_item_31 : decode cX12_item 31 = .ok (.isub, 1) := by decide +kernel
theorem dX12_item_32 : decode cX12_item 32 = .ok (.istore 4, 2) := by decide +kernel
theorem dX12_item_34 : decode cX12_item 34 = .ok (.iload_n 2, 1) := by decide +kernel
theorem dX12_item_35 : decode cX12_item 35 = .ok (.i2l, 1) := by decide +kernel
theorem dX12_item_36 : decode cX12_item 36 = .ok (.lconst 0, 1) := by decide +kernel
theorem dX12_item_37 : decode cX12_item 37 = .ok (.aload_n 0, 1) := by decide +kernel
theorem dX12_item_38 : decode cX12_item 38 = .ok (.getfield 45, 3) := by decide +kernel
theorem dX12_item_41 : decode cX12_item 41 = .ok (.iload 4, 2) := by decide +kernel
theorem dX12_item_43 : decode cX12_item 43 = .ok (.iaload, 1) := by decide +kernel
theorem dX12_item_44 : decode cX12_item 44 = .ok (.iconst 1, 1) := by decide +kernel
theorem dX12_item_45 : decode cX12_item 45 = .ok (.isub, 1) := by decide +kernel
theorem dX12_item_46 : decode cX12_item 46 = .ok (.i2l, 1) := by decide +kernel
theorem dX12_item_47 : decode cX12_item 47 = .ok (.invokestatic 117, 3) := by decide +kernel
theorem dX12_item_50 : decode cX12_item 50 = .ok (.ifCond .ne 5, 3) := by decide +kernel
theorem dX12_item_53 : decode cX12_item 53 = .ok (.iconst (-1), 1) := by decide +kernel
theorem dX12_item_54 : decode cX12_item 54 = .ok (.ireturn, 1) := by decide +kernel
theorem dX12_item_55 : decode cX12_item 55 = .ok (.aload_n 0, 1) := by decide +kernel
theorem dX12_item_56 : decode cX12_item 56 = .ok (.getfield 49, 3) := by decide +kernel
theorem dX12_item_59 : decode cX12_item 59 = .ok (.bipush 8, 2) := by decide +kernel
theorem dX12_item_61 : decode cX12_item 61 = .ok (.iload 4, 2) := by decide +kernel
theorem dX12_item_63 : decode cX12_item 63 = .ok (.imul, 1) := by decide +kernel
theorem dX12_item_64 : decode cX12_item 64 = .ok (.iload_n 2, 1) := by decide +kernel
theorem dX12_item_65 : decode cX12_item 65 = .ok (.iadd, 1) := by decide +kernel
theorem dX12_item_66 : decode cX12_item 66 = .ok (.iaload, 1) := by decide +kernel
theorem dX12_item_67 : decode cX12_item 67 = .ok (.istore 5, 2) := by decide +kernel
theorem dX12_item_69 : decode cX12_item 69 = .ok (.aload_n 0, 1) := by decide +kernel
theorem dX12_item_70 : decode cX12_item 70 = .ok (.getfield 49, 3) := by decide +kernel
theorem dX12_item_73 : decode cX12_item 73 = .ok (.bipush 8, 2) := by decide +kernel
theorem dX12_item_75 : decode cX12_item 75 = .ok (.iload 4, 2) := by decide +kernel
theorem dX12_item_77 : decode cX12_item 77 = .ok (.imul, 1) := by decide +kernel
theorem dX12_item_78 : decode cX12_item 78 = .ok (.iload_n 2, 1) := by decide +kernel
theorem dX12_item_79 : decode cX12_item 79 = .ok (.iadd, 1) := by decide +kernel
theorem dX12_item_80 : decode cX12_item 80 = .ok (.iload_n 3, 1) := by decide +kernel
theorem dX12_item_81 : decode cX12_item 81 = .ok (.iastore, 1) := by decide +kernel
theorem dX12_item_82 : decode cX12_item 82 = .ok (.iload 5, 2) := by decide +kernel
theorem dX12_item_84 : decode cX12_item 84 = .ok (.ireturn, 1) := by decide +kernel
theorem dX12_share_0 : decode cX12_share 0 = .ok (.iload_n 1, 1) := by decide +kernel
theorem dX12_share_1 : decode cX12_share 1 = .ok (.invokestatic 148, 3) := by decide +kernel
theorem dX12_share_4 : decode cX12_share 4 = .ok (.ifCond .eq 10, 3) := by decide +kernel
theorem dX12_share_7 : decode cX12_share 7 = .ok (.iload_n 2, 1) := by decide +kernel
theorem dX12_share_8 : decode cX12_share 8 = .ok (.invokestatic 148, 3) := by decide +kernel
theorem dX12_share_11 : decode cX12_share 11 = .ok (.ifCond .ne 5, 3) := by decide +kernel
theorem dX12_share_14 : decode cX12_share 14 = .ok (.iconst (-1), 1) := by decide +kernel
theorem dX12_share_15 : decode cX12_share 15 = .ok (.ireturn, 1) := by decide +kernel
theorem dX12_share_16 : decode cX12_share 16 = .ok (.aload_n 0, 1) := by decide +kernel
theorem dX12_share_17 : decode cX12_share 17 = .ok (.getfield 66, 3) := by decide +kernel
theorem dX12_share_20 : decode cX12_share 20 = .ok (.iload_n 1, 1) := by decide +kernel
theorem dX12_share_21 : decode cX12_share 21 = .ok (.aload_n 0, 1) := by decide +kernel
theorem dX12_share_22 : decode cX12_share 22 = .ok (.getfield 66, 3) := by decide +kernel
theorem dX12_share_25 : decode cX12_share 25 = .ok (.iload_n 2, 1) := by decide +kernel
theorem dX12_share_26 : decode cX12_share 26 = .ok (.iaload, 1) := by decide +kernel
theorem dX12_share_27 : decode cX12_share 27 = .ok (.iastore, 1) := by decide +kernel
theorem dX12_share_28 : decode cX12_share 28 = .ok (.aload_n 0, 1) := by decide +kernel
theorem dX12_share_29 : decode cX12_share 29 = .ok (.aload_n 0, 1) := by decide +kernel
theorem dX12_share_30 : decode cX12_share 30 = .ok (.getfield 66, 3) := by decide +kernel
theorem dX12_share_33 : decode cX12_share 33 = .ok (.iload_n 1, 1) := by decide +kernel
theorem dX12_share_34 : decode cX12_share 34 = .ok (.iaload, 1) := by decide +kernel
theorem dX12_share_35 : decode cX12_share 35 = .ok (.invokevirtual 160, 3) := by decide +kernel
theorem dX12_share_38 : decode cX12_share 38 = .ok (.ireturn, 1) := by decide +kernel
theorem dX12_give_0 : decode cX12_give 0 = .ok (.iload_n 1, 1) := by decide +kernel
theorem dX12_give_1 : decode cX12_give 1 = .ok (.i2l, 1) := by decide +kernel
theorem dX12_give_2 : decode cX12_give 2 = .ok (.lconst 0, 1) := by decide +kernel
theorem dX12_give_3 : decode cX12_give 3 = .ok (.ldc2_w 137, 3) := by decide +kernel
theorem dX12_give_6 : decode cX12_give 6 = .ok (.invokestatic 117, 3) := by decide +kernel
theorem dX12_give_9 : decode cX12_give 9 = .ok (.ifCond .eq 11, 3) := by decide +kernel
theorem dX12_give_12 : decode cX12_give 12 = .ok (.iload 4, 2) := by decide +kernel
theorem dX12_give_14 : decode cX12_give 14 = .ok (.invokestatic 148, 3) := by decide +kernel
theorem dX12_give_17 : decode cX12_give 17 = .ok (.ifCond .ne 5, 3) := by decide +kernel
theorem dX12_give_20 : decode cX12_give 20 = .ok (.iconst (-1), 1) := by decide +kernel
theorem dX12_give_21 : decode cX12_give 21 = .ok (.ireturn, 1) := by decide +kernel
theorem dX12_give_22 : decode cX12_give 22 = .ok (.aload_n 0, 1) := by decide +kernel
theorem dX12_give_23 : decode cX12_give 23 = .ok (.getfield 69, 3) := by decide +kernel
theorem dX12_give_26 : decode cX12_give 26 = .ok (.iload_n 1, 1) := by decide +kernel
theorem dX12_give_27 : decode cX12_give 27 = .ok (.lload_n 2, 1) := by decide +kernel
theorem dX12_give_28 : decode cX12_give 28 = .ok (.lastore, 1) := by decide +kernel
theorem dX12_give_29 : decode cX12_give 29 = .ok (.aload_n 0, 1) := by decide +kernel
theorem dX12_give_30 : decode cX12_give 30 = .ok (.getfield 72, 3) := by decide +kernel
theorem dX12_give_33 : decode cX12_give 33 = .ok (.iload_n 1, 1) := by decide +kernel
theorem dX12_give_34 : decode cX12_give 34 = .ok (.iload 4, 2) := by decide +kernel
theorem dX12_give_36 : decode cX12_give 36 = .ok (.iastore, 1) := by decide +kernel
theorem dX12_give_37 : decode cX12_give 37 = .ok (.iconst 1, 1) := by decide +kernel
theorem dX12_give_38 : decode cX12_give 38 = .ok (.ireturn, 1) := by decide +kernel
theorem dX12_taken_0 : decode cX12_taken 0 = .ok (.aload_n 0, 1) := by decide +kernel
theorem dX12_taken_1 : decode cX12_taken 1 = .ok (.getfield 26, 3) := by decide +kernel
theorem dX12_taken_4 : decode cX12_taken 4 = .ok (.iconst 5, 1) := by decide +kernel
theorem dX12_taken_5 : decode cX12_taken 5 = .ok (.iload_n 1, 1) := by decide +kernel
theorem dX12_taken_6 : decode cX12_taken 6 = .ok (.imul, 1) := by decide +kernel
theorem dX12_taken_7 : decode cX12_taken 7 = .ok (.iload_n 2, 1) := by decide +kernel
theorem dX12_taken_8 : decode cX12_taken 8 = .ok (.iadd, 1) := by decide +kernel
theorem dX12_taken_9 : decode cX12_taken 9 = .ok (.iaload, 1) := by decide +kernel
theorem dX12_taken_10 : decode cX12_taken 10 = .ok (.istore 6, 2) := by decide +kernel
theorem dX12_taken_12 : decode cX12_taken 12 = .ok (.aload_n 0, 1) := by decide +kernel
theorem dX12_taken_13 : decode cX12_taken 13 = .ok (.getfield 29, 3) := by decide +kernel
theorem dX12_taken_16 : decode cX12_taken 16 = .ok (.iconst 5, 1) := by decide +kernel
theorem dX12_taken_17 : decode cX12_taken 17 = .ok (.iload_n 1, 1) := by decide +kernel
theorem dX12_taken_18 : decode cX12_taken 18 = .ok (.imul, 1) := by decide +kernel
theorem dX12_taken_19 : decode cX12_taken 19 = .ok (.iload_n 2, 1) := by decide +kernel
theorem dX12_taken_20 : decode cX12_taken 20 = .ok (.iadd, 1) := by decide +kernel
theorem dX12_taken_21 : decode cX12_taken 21 = .ok (.iaload, 1) := by decide +kernel
theorem dX12_taken_22 : decode cX12_taken 22 = .ok (.istore 7, 2) := by decide +kernel
theorem dX12_taken_24 : decode cX12_taken 24 = .ok (.iload 6, 2) := by decide +kernel
theorem dX12_taken_26 : decode cX12_taken 26 = .ok (.iconst 2, 1) := by decide +kernel
theorem dX12_taken_27 : decode cX12_taken 27 = .ok (.if_icmp .ge 27, 3) := by decide +kernel
theorem dX12_taken_30 : decode cX12_taken 30 = .ok (.iload 6, 2) := by decide +kernel
theorem dX12_taken_32 : decode cX12_taken 32 = .ok (.ifCond .ne 20, 3) := by decide +kernel
theorem dX12_taken_35 : decode cX12_taken 35 = .ok (.lload_n 3, 1) := by decide +kernel
theorem dX12_taken_36 : decode cX12_taken 36 = .ok (.ldc2_w 163, 3) := by decide +kernel
theorem dX12_taken_39 : decode cX12_taken 39 = .ok (.ldc2_w 165, 3) := by decide +kernel
theorem dX12_taken_42 : decode cX12_taken 42 = .ok (.invokestatic 117, 3) := by decide +kernel
theorem dX12_taken_45 : decode cX12_taken 45 = .ok (.ifCond .ne 7, 3) := by decide +kernel
theorem dX12_taken_48 : decode cX12_taken 48 = .ok (.iconst 2, 1) := by decide +kernel
theorem dX12_taken_49 : decode cX12_taken 49 = .ok (.goto 4, 3) := by decide +kernel
theorem dX12_taken_52 : decode cX12_taken 52 = .ok (.iconst 0, 1) := by decide +kernel
theorem dX12_taken_53 : decode cX12_taken 53 = .ok (.ireturn, 1) := by decide +kernel
theorem dX12_taken_54 : decode cX12_taken 54 = .ok (.aload_n 0, 1) := by decide +kernel
theorem dX12_taken_55 : decode cX12_taken 55 = .ok (.iload 5, 2) := by decide +kernel
theorem dX12_taken_57 : decode cX12_taken 57 = .ok (.invokevirtual 160, 3) := by decide +kernel
theorem dX12_taken_60 : decode cX12_taken 60 = .ok (.istore 8, 2) := by decide +kernel
theorem dX12_taken_62 : decode cX12_taken 62 = .ok (.iload 8, 2) := by decide +kernel
theorem dX12_taken_64 : decode cX12_taken 64 = .ok (.ifCond .ne 5, 3) := by decide +kernel
theorem dX12_taken_67 : decode cX12_taken 67 = .ok (.iconst 0, 1) := by decide +kernel
theorem dX12_taken_68 : decode cX12_taken 68 = .ok (.ireturn, 1) := by decide +kernel
theorem dX12_taken_69 : decode cX12_taken 69 = .ok (.iload 6, 2) := by decide +kernel
theorem dX12_taken_71 : decode cX12_taken 71 = .ok (.iconst 2, 1) := by decide +kernel
theorem dX12_taken_72 : decode cX12_taken 72 = .ok (.if_icmp .ne 17, 3) := by decide +kernel
theorem dX12_taken_75 : decode cX12_taken 75 = .ok (.iload 8, 2) := by decide +kernel
theorem dX12_taken_77 : decode cX12_taken 77 = .ok (.iconst 3, 1) := by decide +kernel
theorem dX12_taken_78 : decode cX12_taken 78 = .ok (.if_icmp .ge 7, 3) := by decide +kernel
theorem dX12_taken_81 : decode cX12_taken 81 = .ok (.iconst 1, 1) := by decide +kernel
theorem dX12_taken_82 : decode cX12_taken 82 = .ok (.goto 38, 3) := by decide +kernel
theorem dX12_taken_85 : decode cX12_taken 85 = .ok (.iconst 0, 1) := by decide +kernel
theorem dX12_taken_86 : decode cX12_taken 86 = .ok (.goto 34, 3) := by decide +kernel
theorem dX12_taken_89 : decode cX12_taken 89 = .ok (.iload 6, 2) := by decide +kernel
theorem dX12_taken_91 : decode cX12_taken 91 = .ok (.iconst 3, 1) := by decide +kernel
theorem dX12_taken_92 : decode cX12_taken 92 = .ok (.if_icmp .ne 17, 3) := by decide +kernel
theorem dX12_taken_95 : decode cX12_taken 95 = .ok (.iload 8, 2) := by decide +kernel
theorem dX12_taken_97 : decode cX12_taken 97 = .ok (.iconst 4, 1) := by decide +kernel
theorem dX12_taken_98 : decode cX12_taken 98 = .ok (.if_icmp .ne 7, 3) := by decide +kernel
theorem dX12_taken_101 : decode cX12_taken 101 = .ok (.iconst 1, 1) := by decide +kernel
theorem dX12_taken_102 : decode cX12_taken 102 = .ok (.goto 18, 3) := by decide +kernel
theorem dX12_taken_105 : decode cX12_taken 105 = .ok (.iconst 0, 1) := by decide +kernel
theorem dX12_taken_106 : decode cX12_taken 106 = .ok (.goto 14, 3) := by decide +kernel
theorem dX12_taken_109 : decode cX12_taken 109 = .ok (.iload 8, 2) := by decide +kernel
theorem dX12_taken_111 : decode cX12_taken 111 = .ok (.iconst 3, 1) := by decide +kernel
theorem dX12_taken_112 : decode cX12_taken 112 = .ok (.if_icmp .ne 7, 3) := by decide +kernel
theorem dX12_taken_115 : decode cX12_taken 115 = .ok (.iconst 1, 1) := by decide +kernel
theorem dX12_taken_116 : decode cX12_taken 116 = .ok (.goto 4, 3) := by decide +kernel
theorem dX12_taken_119 : decode cX12_taken 119 = .ok (.iconst 0, 1) := by decide +kernel
theorem dX12_taken_120 : decode cX12_taken 120 = .ok (.istore 9, 2) := by decide +kernel
theorem dX12_taken_122 : decode cX12_taken 122 = .ok (.iload 9, 2) := by decide +kernel
theorem dX12_taken_124 : decode cX12_taken 124 = .ok (.ifCond .ne 5, 3) := by decide +kernel
theorem dX12_taken_127 : decode cX12_taken 127 = .ok (.iconst 1, 1) := by decide +kernel
theorem dX12_taken_128 : decode cX12_taken 128 = .ok (.ireturn, 1) := by decide +kernel
theorem dX12_taken_129 : decode cX12_taken 129 = .ok (.iload 6, 2) := by decide +kernel
theorem dX12_taken_131 : decode cX12_taken 131 = .ok (.iconst 2, 1) := by decide +kernel
theorem dX12_taken_132 : decode cX12_taken 132 = .ok (.if_icmp .ne 25, 3) := by decide +kernel
theorem dX12_taken_135 : decode cX12_taken 135 = .ok (.iload 5, 2) := by decide +kernel
theorem dX12_taken_137 : decode cX12_taken 137 = .ok (.bipush 10, 2) := by decide +kernel
theorem dX12_taken_139 : decode cX12_taken 139 = .ok (.idiv, 1) := by decide +kernel
theorem dX12_taken_140 : decode cX12_taken 140 = .ok (.iconst 3, 1) := by decide +kernel
theorem dX12_taken_141 : decode cX12_taken 141 = .ok (.iload 7, 2) := by decide +kernel
theorem dX12_taken_143 : decode cX12_taken 143 = .ok (.imul, 1) := by decide +kernel
theorem dX12_taken_144 : decode cX12_taken 144 = .ok (.iload_n 1, 1) := by decide +kernel
theorem dX12_taken_145 : decode cX12_taken 145 = .ok (.iconst 3, 1) := by decide +kernel
theorem dX12_taken_146 : decode cX12_taken 146 = .ok (.irem, 1) := by decide +kernel
theorem dX12_taken_147 : decode cX12_taken 147 = .ok (.iadd, 1) := by decide +kernel
theorem dX12_taken_148 : decode cX12_taken 148 = .ok (.if_icmp .ne 7, 3) := by decide +kernel
theorem dX12_taken_151 : decode cX12_taken 151 = .ok (.iconst 0, 1) := by decide +kernel
theorem dX12_taken_152 : decode cX12_taken 152 = .ok (.goto 4, 3) := by decide +kernel
theorem dX12_taken_155 : decode cX12_taken 155 = .ok (.iconst 2, 1) := by decide +kernel
theorem dX12_taken_156 : decode cX12_taken 156 = .ok (.ireturn, 1) := by decide +kernel
theorem dX12_taken_157 : decode cX12_taken 157 = .ok (.iload 6, 2) := by decide +kernel
theorem dX12_taken_159 : decode cX12_taken 159 = .ok (.iconst 3, 1) := by decide +kernel
theorem dX12_taken_160 : decode cX12_taken 160 = .ok (.if_icmp .ne 30, 3) := by decide +kernel
theorem dX12_taken_163 : decode cX12_taken 163 = .ok (.aload_n 0, 1) := by decide +kernel
theorem dX12_taken_164 : decode cX12_taken 164 = .ok (.getfield 52, 3) := by decide +kernel
theorem dX12_taken_167 : decode cX12_taken 167 = .ok (.iload 5, 2) := by decide +kernel
theorem dX12_taken_169 : decode cX12_taken 169 = .ok (.ldc 147, 2) := by decide +kernel
theorem dX12_taken_171 : decode cX12_taken 171 = .ok (.isub, 1) := by decide +kernel
theorem dX12_taken_172 : decode cX12_taken 172 = .ok (.iaload, 1) := by decide +kernel
theorem dX12_taken_173 : decode cX12_taken 173 = .ok (.iconst 3, 1) := by decide +kernel
theorem dX12_taken_174 : decode cX12_taken 174 = .ok (.iload 7, 2) := by decide +kernel
theorem dX12_taken_176 : decode cX12_taken 176 = .ok (.iconst 2, 1) := by decide +kernel
theorem dX12_taken_177 : decode cX12_taken 177 = .ok (.isub, 1) := by decide +kernel
theorem dX12_taken_178 : decode cX12_taken 178 = .ok (.imul, 1) := by decide +kernel
theorem dX12_taken_179 : decode cX12_taken 179 = .ok (.iload_n 1, 1) := by decide +kernel
theorem dX12_taken_180 : decode cX12_taken 180 = .ok (.iconst 3, 1) := by decide +kernel
theorem dX12_taken_181 : decode cX12_taken 181 = .ok (.irem, 1) := by decide +kernel
theorem dX12_taken_182 : decode cX12_taken 182 = .ok (.iadd, 1) := by decide +kernel
theorem dX12_taken_183 : decode cX12_taken 183 = .ok (.if_icmp .eq 7, 3) := by decide +kernel
theorem dX12_taken_186 : decode cX12_taken 186 = .ok (.iconst 2, 1) := by decide +kernel
theorem dX12_taken_187 : decode cX12_taken 187 = .ok (.goto 4, 3) := by decide +kernel
theorem dX12_taken_190 : decode cX12_taken 190 = .ok (.iconst 0, 1) := by decide +kernel
theorem dX12_taken_191 : decode cX12_taken 191 = .ok (.ireturn, 1) := by decide +kernel
theorem dX12_checked_0 : decode cX12_checked 0 = .ok (.iload_n 1, 1) := by decide +kernel
theorem dX12_checked_1 : decode cX12_checked 1 = .ok (.ifCond .ne 16, 3) := by decide +kernel
theorem dX12_checked_4 : decode cX12_checked 4 = .ok (.lload_n 2, 1) := by decide +kernel
theorem dX12_checked_5 : decode cX12_checked 5 = .ok (.lload 5, 2) := by decide +kernel
theorem dX12_checked_7 : decode cX12_checked 7 = .ok (.lcmp, 1) := by decide +kernel
theorem dX12_checked_8 : decode cX12_checked 8 = .ok (.ifCond .gt 7, 3) := by decide +kernel
theorem dX12_checked_11 : decode cX12_checked 11 = .ok (.iconst 0, 1) := by decide +kernel
theorem dX12_checked_12 : decode cX12_checked 12 = .ok (.goto 4, 3) := by decide +kernel
theorem dX12_checked_15 : decode cX12_checked 15 = .ok (.iconst 2, 1) := by decide +kernel
theorem dX12_checked_16 : decode cX12_checked 16 = .ok (.ireturn, 1) := by decide +kernel
theorem dX12_checked_17 : decode cX12_checked 17 = .ok (.iload_n 1, 1) := by decide +kernel
theorem dX12_checked_18 : decode cX12_checked 18 = .ok (.iconst 1, 1) := by decide +kernel
theorem dX12_checked_19 : decode cX12_checked 19 = .ok (.if_icmp .ne 29, 3) := by decide +kernel
theorem dX12_checked_22 : decode cX12_checked 22 = .ok (.lload_n 2, 1) := by decide +kernel
theorem dX12_checked_23 : decode cX12_checked 23 = .ok (.lconst 0, 1) := by decide +kernel
theorem dX12_checked_24 : decode cX12_checked 24 = .ok (.lcmp, 1) := by decide +kernel
theorem dX12_checked_25 : decode cX12_checked 25 = .ok (.ifCond .ne 7, 3) := by decide +kernel
theorem dX12_checked_28 : decode cX12_checked 28 = .ok (.iconst 5, 1) := by decide +kernel
theorem dX12_checked_29 : decode cX12_checked 29 = .ok (.goto 18, 3) := by decide +kernel
theorem dX12_checked_32 : decode cX12_checked 32 = .ok (.ldc2_w 167, 3) := by decide +kernel
theorem dX12_checked_35 : decode cX12_checked 35 = .ok (.lload_n 2, 1) := by decide +kernel
theorem dX12_checked_36 : decode cX12_checked 36 = .ok (.lrem, 1) := by decide +kernel
theorem dX12_checked_37 : decode cX12_checked 37 = .ok (.lconst 0, 1) := by decide +kernel
theorem dX12_checked_38 : decode cX12_checked 38 = .ok (.lcmp, 1) := by decide +kernel
theorem dX12_checked_39 : decode cX12_checked 39 = .ok (.ifCond .ne 7, 3) := by decide +kernel
theorem dX12_checked_42 : decode cX12_checked 42 = .ok (.iconst 0, 1) := by decide +kernel
theorem dX12_checked_43 : decode cX12_checked 43 = .ok (.goto 4, 3) := by decide +kernel
theorem dX12_checked_46 : decode cX12_checked 46 = .ok (.iconst 2, 1) := by decide +kernel
theorem dX12_checked_47 : decode cX12_checked 47 = .ok (.ireturn, 1) := by decide +kernel
theorem dX12_checked_48 : decode cX12_checked 48 = .ok (.iload 4, 2) := by decide +kernel
theorem dX12_checked_50 : decode cX12_checked 50 = .ok (.iconst (-1), 1) := by decide +kernel
theorem dX12_checked_51 : decode cX12_checked 51 = .ok (.if_icmp .ne 5, 3) := by decide +kernel
theorem dX12_checked_54 : decode cX12_checked 54 = .ok (.iconst 3, 1) := by decide +kernel
theorem dX12_checked_55 : decode cX12_checked 55 = .ok (.ireturn, 1) := by decide +kernel
theorem dX12_checked_56 : decode cX12_checked 56 = .ok (.iload_n 1, 1) := by decide +kernel
theorem dX12_checked_57 : decode cX12_checked 57 = .ok (.iconst 2, 1) := by decide +kernel
theorem dX12_checked_58 : decode cX12_checked 58 = .ok (.if_icmp .ne 56, 3) := by decide +kernel
theorem dX12_checked_61 : decode cX12_checked 61 = .ok (.iload 4, 2) := by decide +kernel
theorem dX12_checked_63 : decode cX12_checked 63 = .ok (.bipush 100, 2) := by decide +kernel
theorem dX12_checked_65 : decode cX12_checked 65 = .ok (.isub, 1) := by decide +kernel
theorem dX12_checked_66 : decode cX12_checked 66 = .ok (.istore 7, 2) := by decide +kernel
theorem dX12_checked_68 : decode cX12_checked 68 = .ok (.lload 5, 2) := by decide +kernel
theorem dX12_checked_70 : decode cX12_checked 70 = .ok (.lconst 0, 1) := by decide +kernel
theorem dX12_checked_71 : decode cX12_checked 71 = .ok (.aload_n 0, 1) := by decide +kernel
theorem dX12_checked_72 : decode cX12_checked 72 = .ok (.getfield 45, 3) := by decide +kernel
theorem dX12_checked_75 : decode cX12_checked 75 = .ok (.iload 7, 2) := by decide +kernel
theorem dX12_checked_77 : decode cX12_checked 77 = .ok (.iaload, 1) := by decide +kernel
theorem dX12_checked_78 : decode cX12_checked 78 = .ok (.iconst 1, 1) := by decide +kernel
theorem dX12_checked_79 : decode cX12_checked 79 = .ok (.isub, 1) := by decide +kernel
theorem dX12_checked_80 : decode cX12_checked 80 = .ok (.i2l, 1) := by decide +kernel
theorem dX12_checked_81 : decode cX12_checked 81 = .ok (.invokestatic 117, 3) := by decide +kernel
theorem dX12_checked_84 : decode cX12_checked 84 = .ok (.ifCond .ne 7, 3) := by decide +kernel
theorem dX12_checked_87 : decode cX12_checked 87 = .ok (.iconst 4, 1) := by decide +kernel
theorem dX12_checked_88 : decode cX12_checked 88 = .ok (.goto 25, 3) := by decide +kernel
theorem dX12_checked_91 : decode cX12_checked 91 = .ok (.aload_n 0, 1) := by decide +kernel
theorem dX12_checked_92 : decode cX12_checked 92 = .ok (.getfield 49, 3) := by decide +kernel
theorem dX12_checked_95 : decode cX12_checked 95 = .ok (.bipush 8, 2) := by decide +kernel
theorem dX12_checked_97 : decode cX12_checked 97 = .ok (.iload 7, 2) := by decide +kernel
theorem dX12_checked_99 : decode cX12_checked 99 = .ok (.imul, 1) := by decide +kernel
theorem dX12_checked_100 : decode cX12_checked 100 = .ok (.lload 5, 2) := by decide +kernel
theorem dX12_checked_102 : decode cX12_checked 102 = .ok (.l2i, 1) := by decide +kernel
theorem dX12_checked_103 : decode cX12_checked 103 = .ok (.iadd, 1) := by decide +kernel
theorem dX12_checked_104 : decode cX12_checked 104 = .ok (.iaload, 1) := by decide +kernel
theorem dX12_checked_105 : decode cX12_checked 105 = .ok (.ifCond .le 7, 3) := by decide +kernel
theorem dX12_checked_108 : decode cX12_checked 108 = .ok (.iconst 0, 1) := by decide +kernel
theorem dX12_checked_109 : decode cX12_checked 109 = .ok (.goto 4, 3) := by decide +kernel
theorem dX12_checked_112 : decode cX12_checked 112 = .ok (.iconst 2, 1) := by decide +kernel
theorem dX12_checked_113 : decode cX12_checked 113 = .ok (.ireturn, 1) := by decide +kernel
theorem dX12_checked_114 : decode cX12_checked 114 = .ok (.iload_n 1, 1) := by decide +kernel
theorem dX12_checked_115 : decode cX12_checked 115 = .ok (.iconst 4, 1) := by decide +kernel
theorem dX12_checked_116 : decode cX12_checked 116 = .ok (.if_icmp .ne 21, 3) := by decide +kernel
theorem dX12_checked_119 : decode cX12_checked 119 = .ok (.iload 4, 2) := by decide +kernel
theorem dX12_checked_121 : decode cX12_checked 121 = .ok (.bipush 10, 2) := by decide +kernel
theorem dX12_checked_123 : decode cX12_checked 123 = .ok (.irem, 1) := by decide +kernel
theorem dX12_checked_124 : decode cX12_checked 124 = .ok (.i2l, 1) := by decide +kernel
theorem dX12_checked_125 : decode cX12_checked 125 = .ok (.lload 5, 2) := by decide +kernel
theorem dX12_checked_127 : decode cX12_checked 127 = .ok (.lcmp, 1) := by decide +kernel
theorem dX12_checked_128 : decode cX12_checked 128 = .ok (.ifCond .ge 7, 3) := by decide +kernel
theorem dX12_checked_131 : decode cX12_checked 131 = .ok (.iconst 0, 1) := by decide +kernel
theorem dX12_checked_132 : decode cX12_checked 132 = .ok (.goto 4, 3) := by decide +kernel
theorem dX12_checked_135 : decode cX12_checked 135 = .ok (.iconst 2, 1) := by decide +kernel
theorem dX12_checked_136 : decode cX12_checked 136 = .ok (.ireturn, 1) := by decide +kernel
theorem dX12_checked_137 : decode cX12_checked 137 = .ok (.iload 4, 2) := by decide +kernel
theorem dX12_checked_139 : decode cX12_checked 139 = .ok (.ldc 147, 2) := by decide +kernel
theorem dX12_checked_141 : decode cX12_checked 141 = .ok (.isub, 1) := by decide +kernel
theorem dX12_checked_142 : decode cX12_checked 142 = .ok (.istore 7, 2) := by decide +kernel
theorem dX12_checked_144 : decode cX12_checked 144 = .ok (.aload_n 0, 1) := by decide +kernel
theorem dX12_checked_145 : decode cX12_checked 145 = .ok (.getfield 55, 3) := by decide +kernel
theorem dX12_checked_148 : decode cX12_checked 148 = .ok (.iload 7, 2) := by decide +kernel
theorem dX12_checked_150 : decode cX12_checked 150 = .ok (.iaload, 1) := by decide +kernel
theorem dX12_checked_151 : decode cX12_checked 151 = .ok (.ifCond .ne 7, 3) := by decide +kernel
theorem dX12_checked_154 : decode cX12_checked 154 = .ok (.iconst 4, 1) := by decide +kernel
theorem dX12_checked_155 : decode cX12_checked 155 = .ok (.goto 45, 3) := by decide +kernel
theorem dX12_checked_158 : decode cX12_checked 158 = .ok (.aload_n 0, 1) := by decide +kernel
theorem dX12_checked_159 : decode cX12_checked 159 = .ok (.getfield 26, 3) := by decide +kernel
theorem dX12_checked_162 : decode cX12_checked 162 = .ok (.iconst 5, 1) := by decide +kernel
theorem dX12_checked_163 : decode cX12_checked 163 = .ok (.aload_n 0, 1) := by decide +kernel
theorem dX12_checked_164 : decode cX12_checked 164 = .ok (.getfield 52, 3) := by decide +kernel
theorem dX12_checked_167 : decode cX12_checked 167 = .ok (.iload 7, 2) := by decide +kernel
theorem dX12_checked_169 : decode cX12_checked 169 = .ok (.iaload, 1) := by decide +kernel
theorem dX12_checked_170 : decode cX12_checked 170 = .ok (.imul, 1) := by decide +kernel
theorem dX12_checked_171 : decode cX12_checked 171 = .ok (.iaload, 1) := by decide +kernel
theorem dX12_checked_172 : decode cX12_checked 172 = .ok (.iconst 1, 1) := by decide +kernel
theorem dX12_checked_173 : decode cX12_checked 173 = .ok (.if_icmp .le 7, 3) := by decide +kernel
theorem dX12_checked_176 : decode cX12_checked 176 = .ok (.iconst 1, 1) := by decide +kernel
theorem dX12_checked_177 : decode cX12_checked 177 = .ok (.goto 23, 3) := by decide +kernel
theorem dX12_checked_180 : decode cX12_checked 180 = .ok (.aload_n 0, 1) := by decide +kernel
theorem dX12_checked_181 : decode cX12_checked 181 = .ok (.getfield 59, 3) := by decide +kernel
theorem dX12_checked_184 : decode cX12_checked 184 = .ok (.iconst 5, 1) := by decide +kernel
theorem dX12_checked_185 : decode cX12_checked 185 = .ok (.iload 7, 2) := by decide +kernel
theorem dX12_checked_187 : decode cX12_checked 187 = .ok (.imul, 1) := by decide +kernel
theorem dX12_checked_188 : decode cX12_checked 188 = .ok (.laload, 1) := by decide +kernel
theorem dX12_checked_189 : decode cX12_checked 189 = .ok (.lload 5, 2) := by decide +kernel
theorem dX12_checked_191 : decode cX12_checked 191 = .ok (.lcmp, 1) := by decide +kernel
theorem dX12_checked_192 : decode cX12_checked 192 = .ok (.ifCond .ne 7, 3) := by decide +kernel
theorem dX12_checked_195 : decode cX12_checked 195 = .ok (.iconst 0, 1) := by decide +kernel
theorem dX12_checked_196 : decode cX12_checked 196 = .ok (.goto 4, 3) := by decide +kernel
theorem dX12_checked_199 : decode cX12_checked 199 = .ok (.iconst 2, 1) := by decide +kernel
theorem dX12_checked_200 : decode cX12_checked 200 = .ok (.ireturn, 1) := by decide +kernel
theorem dX12_record_0 : decode cX12_record 0 = .ok (.iconst 0, 1) := by decide +kernel
theorem dX12_record_1 : decode cX12_record 1 = .ok (.istore_n 3, 1) := by decide +kernel
theorem dX12_record_2 : decode cX12_record 2 = .ok (.iconst 0, 1) := by decide +kernel
theorem dX12_record_3 : decode cX12_record 3 = .ok (.istore 4, 2) := by decide +kernel
theorem dX12_record_5 : decode cX12_record 5 = .ok (.iload 4, 2) := by decide +kernel
theorem dX12_record_7 : decode cX12_record 7 = .ok (.aload_n 0, 1) := by decide +kernel
theorem dX12_record_8 : decode cX12_record 8 = .ok (.getfield 20, 3) := by decide +kernel
theorem dX12_record_11 : decode cX12_record 11 = .ok (.iload_n 1, 1) := by decide +kernel
theorem dX12_record_12 : decode cX12_record 12 = .ok (.iaload, 1) := by decide +kernel
theorem dX12_record_13 : decode cX12_record 13 = .ok (.if_icmp .ge 39, 3) := by decide +kernel
theorem dX12_record_16 : decode cX12_record 16 = .ok (.iload_n 3, 1) := by decide +kernel
theorem dX12_record_17 : decode cX12_record 17 = .ok (.ifCond .ne 35, 3) := by decide +kernel
theorem dX12_record_20 : decode cX12_record 20 = .ok (.aload_n 0, 1) := by decide +kernel
theorem dX12_record_21 : decode cX12_record 21 = .ok (.iload_n 1, 1) := by decide +kernel
theorem dX12_record_22 : decode cX12_record 22 = .ok (.iload 4, 2) := by decide +kernel
theorem dX12_record_24 : decode cX12_record 24 = .ok (.aload_n 0, 1) := by decide +kernel
theorem dX12_record_25 : decode cX12_record 25 = .ok (.getfield 82, 3) := by decide +kernel
theorem dX12_record_28 : decode cX12_record 28 = .ok (.iload_n 2, 1) := by decide +kernel
theorem dX12_record_29 : decode cX12_record 29 = .ok (.iload 4, 2) := by decide +kernel
theorem dX12_record_31 : decode cX12_record 31 = .ok (.iadd, 1) := by decide +kernel
theorem dX12_record_32 : decode cX12_record 32 = .ok (.laload, 1) := by decide +kernel
theorem dX12_record_33 : decode cX12_record 33 = .ok (.aload_n 0, 1) := by decide +kernel
theorem dX12_record_34 : decode cX12_record 34 = .ok (.getfield 85, 3) := by decide +kernel
theorem dX12_record_37 : decode cX12_record 37 = .ok (.iload_n 2, 1) := by decide +kernel
theorem dX12_record_38 : decode cX12_record 38 = .ok (.iload 4, 2) := by decide +kernel
theorem dX12_record_40 : decode cX12_record 40 = .ok (.iadd, 1) := by decide +kernel
theorem dX12_record_41 : decode cX12_record 41 = .ok (.iaload, 1) := by decide +kernel
theorem dX12_record_42 : decode cX12_record 42 = .ok (.invokevirtual 169, 3) := by decide +kernel
theorem dX12_record_45 : decode cX12_record 45 = .ok (.istore_n 3, 1) := by decide +kernel
theorem dX12_record_46 : decode cX12_record 46 = .ok (.iinc 4 1, 3) := by decide +kernel
theorem dX12_record_49 : decode cX12_record 49 = .ok (.goto (-44), 3) := by decide +kernel
theorem dX12_record_52 : decode cX12_record 52 = .ok (.iconst 2, 1) := by decide +kernel
theorem dX12_record_53 : decode cX12_record 53 = .ok (.iload_n 1, 1) := by decide +kernel
theorem dX12_record_54 : decode cX12_record 54 = .ok (.imul, 1) := by decide +kernel
theorem dX12_record_55 : decode cX12_record 55 = .ok (.istore 4, 2) := by decide +kernel
theorem dX12_record_57 : decode cX12_record 57 = .ok (.iload 4, 2) := by decide +kernel
theorem dX12_record_59 : decode cX12_record 59 = .ok (.iconst 2, 1) := by decide +kernel
theorem dX12_record_60 : decode cX12_record 60 = .ok (.iload_n 1, 1) := by decide +kernel
theorem dX12_record_61 : decode cX12_record 61 = .ok (.imul, 1) := by decide +kernel
theorem dX12_record_62 : decode cX12_record 62 = .ok (.aload_n 0, 1) := by decide +kernel
theorem dX12_record_63 : decode cX12_record 63 = .ok (.getfield 32, 3) := by decide +kernel
theorem dX12_record_66 : decode cX12_record 66 = .ok (.iload_n 1, 1) := by decide +kernel
theorem dX12_record_67 : decode cX12_record 67 = .ok (.iaload, 1) := by decide +kernel
theorem dX12_record_68 : decode cX12_record 68 = .ok (.iadd, 1) := by decide +kernel
theorem dX12_record_69 : decode cX12_record 69 = .ok (.if_icmp .ge 82, 3) := by decide +kernel
theorem dX12_record_72 : decode cX12_record 72 = .ok (.iload_n 3, 1) := by decide +kernel
theorem dX12_record_73 : decode cX12_record 73 = .ok (.ifCond .ne 78, 3) := by decide +kernel
theorem dX12_record_76 : decode cX12_record 76 = .ok (.aload_n 0, 1) := by decide +kernel
theorem dX12_record_77 : decode cX12_record 77 = .ok (.aload_n 0, 1) := by decide +kernel
theorem dX12_record_78 : decode cX12_record 78 = .ok (.getfield 35, 3) := by decide +kernel
theorem dX12_record_81 : decode cX12_record 81 = .ok (.iload 4, 2) := by decide +kernel
theorem dX12_record_83 : decode cX12_record 83 = .ok (.iaload, 1) := by decide +kernel
theorem dX12_record_84 : decode cX12_record 84 = .ok (.aload_n 0, 1) := by decide +kernel
theorem dX12_record_85 : decode cX12_record 85 = .ok (.getfield 82, 3) := by decide +kernel
theorem dX12_record_88 : decode cX12_record 88 = .ok (.iload_n 2, 1) := by decide +kernel
theorem dX12_record_89 : decode cX12_record 89 = .ok (.aload_n 0, 1) := by decide +kernel
theorem dX12_record_90 : decode cX12_record 90 = .ok (.getfield 38, 3) := by decide +kernel
theorem dX12_record_93 : decode cX12_record 93 = .ok (.iload 4, 2) := by decide +kernel
theorem dX12_record_95 : decode cX12_record 95 = .ok (.iaload, 1) := by decide +kernel
theorem dX12_record_96 : decode cX12_record 96 = .ok (.iadd, 1) := by decide +kernel
theorem dX12_record_97 : decode cX12_record 97 = .ok (.laload, 1) := by decide +kernel
theorem dX12_record_98 : decode cX12_record 98 = .ok (.aload_n 0, 1) := by decide +kernel
theorem dX12_record_99 : decode cX12_record 99 = .ok (.getfield 85, 3) := by decide +kernel
theorem dX12_record_102 : decode cX12_record 102 = .ok (.iload_n 2, 1) := by decide +kernel
theorem dX12_record_103 : decode cX12_record 103 = .ok (.aload_n 0, 1) := by decide +kernel
theorem dX12_record_104 : decode cX12_record 104 = .ok (.getfield 38, 3) := by decide +kernel
theorem dX12_record_107 : decode cX12_record 107 = .ok (.iload 4, 2) := by decide +kernel
theorem dX12_record_109 : decode cX12_record 109 = .ok (.iaload, 1) := by decide +kernel
theorem dX12_record_110 : decode cX12_record 110 = .ok (.iadd, 1) := by decide +kernel
theorem dX12_record_111 : decode cX12_record 111 = .ok (.iaload, 1) := by decide +kernel
theorem dX12_record_112 : decode cX12_record 112 = .ok (.aload_n 0, 1) := by decide +kernel
theorem dX12_record_113 : decode cX12_record 113 = .ok (.getfield 35, 3) := by decide +kernel
theorem dX12_record_116 : decode cX12_record 116 = .ok (.iload 4, 2) := by decide +kernel
theorem dX12_record_118 : decode cX12_record 118 = .ok (.iaload, 1) := by decide +kernel
theorem dX12_record_119 : decode cX12_record 119 = .ok (.iconst 1, 1) := by decide +kernel
theorem dX12_record_120 : decode cX12_record 120 = .ok (.if_icmp .ne 7, 3) := by decide +kernel
theorem dX12_record_123 : decode cX12_record 123 = .ok (.lconst 0, 1) := by decide +kernel
theorem dX12_record_124 : decode cX12_record 124 = .ok (.goto 17, 3) := by decide +kernel
theorem dX12_record_127 : decode cX12_record 127 = .ok (.aload_n 0, 1) := by decide +kernel
theorem dX12_record_128 : decode cX12_record 128 = .ok (.getfield 82, 3) := by decide +kernel
theorem dX12_record_131 : decode cX12_record 131 = .ok (.iload_n 2, 1) := by decide +kernel
theorem dX12_record_132 : decode cX12_record 132 = .ok (.aload_n 0, 1) := by decide +kernel
theorem dX12_record_133 : decode cX12_record 133 = .ok (.getfield 41, 3) := by decide +kernel
theorem dX12_record_136 : decode cX12_record 136 = .ok (.iload 4, 2) := by decide +kernel
theorem dX12_record_138 : decode cX12_record 138 = .ok (.iaload, 1) := by decide +kernel
theorem dX12_record_139 : decode cX12_record 139 = .ok (.iadd, 1) := by decide +kernel
theorem dX12_record_140 : decode cX12_record 140 = .ok (.laload, 1) := by decide +kernel
theorem dX12_record_141 : decode cX12_record 141 = .ok (.invokevirtual 173, 3) := by decide +kernel
theorem dX12_record_144 : decode cX12_record 144 = .ok (.istore_n 3, 1) := by decide +kernel
theorem dX12_record_145 : decode cX12_record 145 = .ok (.iinc 4 1, 3) := by decide +kernel
theorem dX12_record_148 : decode cX12_record 148 = .ok (.goto (-91), 3) := by decide +kernel
theorem dX12_record_151 : decode cX12_record 151 = .ok (.iload_n 3, 1) := by decide +kernel
theorem dX12_record_152 : decode cX12_record 152 = .ok (.ifCond .le 8, 3) := by decide +kernel
theorem dX12_record_155 : decode cX12_record 155 = .ok (.bipush (-10), 2) := by decide +kernel
theorem dX12_record_157 : decode cX12_record 157 = .ok (.iload_n 3, 1) := by decide +kernel
theorem dX12_record_158 : decode cX12_record 158 = .ok (.isub, 1) := by decide +kernel
theorem dX12_record_159 : decode cX12_record 159 = .ok (.ireturn, 1) := by decide +kernel
theorem dX12_record_160 : decode cX12_record 160 = .ok (.aload_n 0, 1) := by decide +kernel
theorem dX12_record_161 : decode cX12_record 161 = .ok (.getfield 177, 3) := by decide +kernel
theorem dX12_record_164 : decode cX12_record 164 = .ok (.istore 4, 2) := by decide +kernel
theorem dX12_record_166 : decode cX12_record 166 = .ok (.aload_n 0, 1) := by decide +kernel
theorem dX12_record_167 : decode cX12_record 167 = .ok (.getfield 52, 3) := by decide +kernel
theorem dX12_record_170 : decode cX12_record 170 = .ok (.iload 4, 2) := by decide +kernel
theorem dX12_record_172 : decode cX12_record 172 = .ok (.iload_n 1, 1) := by decide +kernel
theorem dX12_record_173 : decode cX12_record 173 = .ok (.iastore, 1) := by decide +kernel
theorem dX12_record_174 : decode cX12_record 174 = .ok (.aload_n 0, 1) := by decide +kernel
theorem dX12_record_175 : decode cX12_record 175 = .ok (.getfield 55, 3) := by decide +kernel
theorem dX12_record_178 : decode cX12_record 178 = .ok (.iload 4, 2) := by decide +kernel
theorem dX12_record_180 : decode cX12_record 180 = .ok (.aload_n 0, 1) := by decide +kernel
theorem dX12_record_181 : decode cX12_record 181 = .ok (.getfield 20, 3) := by decide +kernel
theorem dX12_record_184 : decode cX12_record 184 = .ok (.iload_n 1, 1) := by decide +kernel
theorem dX12_record_185 : decode cX12_record 185 = .ok (.iaload, 1) := by decide +kernel
theorem dX12_record_186 : decode cX12_record 186 = .ok (.iastore, 1) := by decide +kernel
theorem dX12_record_187 : decode cX12_record 187 = .ok (.iconst 0, 1) := by decide +kernel
theorem dX12_record_188 : decode cX12_record 188 = .ok (.istore 5, 2) := by decide +kernel
theorem dX12_record_190 : decode cX12_record 190 = .ok (.iload 5, 2) := by decide +kernel
theorem dX12_record_192 : decode cX12_record 192 = .ok (.aload_n 0, 1) := by decide +kernel
theorem dX12_record_193 : decode cX12_record 193 = .ok (.getfield 20, 3) := by decide +kernel
theorem dX12_record_196 : decode cX12_record 196 = .ok (.iload_n 1, 1) := by decide +kernel
theorem dX12_record_197 : decode cX12_record 197 = .ok (.iaload, 1) := by decide +kernel
theorem dX12_record_198 : decode cX12_record 198 = .ok (.if_icmp .ge 91, 3) := by decide +kernel
theorem dX12_record_201 : decode cX12_record 201 = .ok (.aload_n 0, 1) := by decide +kernel
theorem dX12_record_202 : decode cX12_record 202 = .ok (.getfield 26, 3) := by decide +kernel
theorem dX12_record_205 : decode cX12_record 205 = .ok (.iconst 5, 1) := by decide +kernel
theorem dX12_record_206 : decode cX12_record 206 = .ok (.iload_n 1, 1) := by decide +kernel
theorem dX12_record_207 : decode cX12_record 207 = .ok (.imul, 1) := by decide +kernel
theorem dX12_record_208 : decode cX12_record 208 = .ok (.iload 5, 2) := by decide +kernel
theorem dX12_record_210 : decode cX12_record 210 = .ok (.iadd, 1) := by decide +kernel
theorem dX12_record_211 : decode cX12_record 211 = .ok (.iaload, 1) := by decide +kernel
theorem dX12_record_212 : decode cX12_record 212 = .ok (.iconst 2, 1) := by decide +kernel
theorem dX12_record_213 : decode cX12_record 213 = .ok (.if_icmp .ge 7, 3) := by decide +kernel
theorem dX12_record_216 : decode cX12_record 216 = .ok (.iconst 1, 1) := by decide +kernel
theorem dX12_record_217 : decode cX12_record 217 = .ok (.goto 4, 3) := by decide +kernel
theorem dX12_record_220 : decode cX12_record 220 = .ok (.iconst 0, 1) := by decide +kernel
theorem dX12_record_221 : decode cX12_record 221 = .ok (.istore 6, 2) := by decide +kernel
theorem dX12_record_223 : decode cX12_record 223 = .ok (.aload_n 0, 1) := by decide +kernel
theorem dX12_record_224 : decode cX12_record 224 = .ok (.getfield 59, 3) := by decide +kernel
theorem dX12_record_227 : decode cX12_record 227 = .ok (.iconst 5, 1) := by decide +kernel
theorem dX12_record_228 : decode cX12_record 228 = .ok (.iload 4, 2) := by decide +kernel
theorem dX12_record_230 : decode cX12_record 230 = .ok (.imul, 1) := by decide +kernel
theorem dX12_record_231 : decode cX12_record 231 = .ok (.iload 5, 2) := by decide +kernel
theorem dX12_record_233 : decode cX12_record 233 = .ok (.iadd, 1) := by decide +kernel
theorem dX12_record_234 : decode cX12_record 234 = .ok (.iload 6, 2) := by decide +kernel
theorem dX12_record_236 : decode cX12_record 236 = .ok (.ifCond .eq 15, 3) := by decide +kernel
theorem dX12_record_239 : decode cX12_record 239 = .ok (.aload_n 0, 1) := by decide +kernel
theorem dX12_record_240 : decode cX12_record 240 = .ok (.getfield 82, 3) := by decide +kernel
theorem dX12_record_243 : decode cX12_record 243 = .ok (.iload_n 2, 1) := by decide +kernel
theorem dX12_record_244 : decode cX12_record 244 = .ok (.iload 5, 2) := by decide +kernel
theorem dX12_record_246 : decode cX12_record 246 = .ok (.iadd, 1) := by decide +kernel
theorem dX12_record_247 : decode cX12_record 247 = .ok (.laload, 1) := by decide +kernel
theorem dX12_record_248 : decode cX12_record 248 = .ok (.goto 4, 3) := by decide +kernel
theorem dX12_record_251 : decode cX12_record 251 = .ok (.lconst 0, 1) := by decide +kernel
theorem dX12_record_252 : decode cX12_record 252 = .ok (.lastore, 1) := by decide +kernel
theorem dX12_record_253 : decode cX12_record 253 = .ok (.aload_n 0, 1) := by decide +kernel
theorem dX12_record_254 : decode cX12_record 254 = .ok (.getfield 63, 3) := by decide +kernel
theorem dX12_record_257 : decode cX12_record 257 = .ok (.iconst 5, 1) := by decide +kernel
theorem dX12_record_258 : decode cX12_record 258 = .ok (.iload 4, 2) := by decide +kernel
theorem dX12_record_260 : decode cX12_record 260 = .ok (.imul, 1) := by decide +kernel
theorem dX12_record_261 : decode cX12_record 261 = .ok (.iload 5, 2) := by decide +kernel
theorem dX12_record_263 : decode cX12_record 263 = .ok (.iadd, 1) := by decide +kernel
theorem dX12_record_264 : decode cX12_record 264 = .ok (.iload 6, 2) := by decide +kernel
theorem dX12_record_266 : decode cX12_record 266 = .ok (.ifCond .eq 7, 3) := by decide +kernel
theorem dX12_record_269 : decode cX12_record 269 = .ok (.iconst (-1), 1) := by decide +kernel
theorem dX12_record_270 : decode cX12_record 270 = .ok (.goto 12, 3) := by decide +kernel
theorem dX12_record_273 : decode cX12_record 273 = .ok (.aload_n 0, 1) := by decide +kernel
theorem dX12_record_274 : decode cX12_record 274 = .ok (.getfield 85, 3) := by decide +kernel
theorem dX12_record_277 : decode cX12_record 277 = .ok (.iload_n 2, 1) := by decide +kernel
theorem dX12_record_278 : decode cX12_record 278 = .ok (.iload 5, 2) := by decide +kernel
theorem dX12_record_280 : decode cX12_record 280 = .ok (.iadd, 1) := by decide +kernel
theorem dX12_record_281 : decode cX12_record 281 = .ok (.iaload, 1) := by decide +kernel
theorem dX12_record_282 : decode cX12_record 282 = .ok (.iastore, 1) := by decide +kernel
theorem dX12_record_283 : decode cX12_record 283 = .ok (.iinc 5 1, 3) := by decide +kernel
theorem dX12_record_286 : decode cX12_record 286 = .ok (.goto (-96), 3) := by decide +kernel
theorem dX12_record_289 : decode cX12_record 289 = .ok (.aload_n 0, 1) := by decide +kernel
theorem dX12_record_290 : decode cX12_record 290 = .ok (.dup, 1) := by decide +kernel
theorem dX12_record_291 : decode cX12_record 291 = .ok (.getfield 177, 3) := by decide +kernel
theorem dX12_record_294 : decode cX12_record 294 = .ok (.iconst 1, 1) := by decide +kernel
theorem dX12_record_295 : decode cX12_record 295 = .ok (.iadd, 1) := by decide +kernel
theorem dX12_record_296 : decode cX12_record 296 = .ok (.putfield 177, 3) := by decide +kernel
theorem dX12_record_299 : decode cX12_record 299 = .ok (.aload_n 0, 1) := by decide +kernel
theorem dX12_record_300 : decode cX12_record 300 = .ok (.dup, 1) := by decide +kernel
theorem dX12_record_301 : decode cX12_record 301 = .ok (.getfield 180, 3) := by decide +kernel
theorem dX12_record_304 : decode cX12_record 304 = .ok (.iconst 1, 1) := by decide +kernel
theorem dX12_record_305 : decode cX12_record 305 = .ok (.iadd, 1) := by decide +kernel
theorem dX12_record_306 : decode cX12_record 306 = .ok (.putfield 180, 3) := by decide +kernel
theorem dX12_record_309 : decode cX12_record 309 = .ok (.ldc 147, 2) := by decide +kernel
theorem dX12_record_311 : decode cX12_record 311 = .ok (.iload 4, 2) := by decide +kernel
theorem dX12_record_313 : decode cX12_record 313 = .ok (.iadd, 1) := by decide +kernel
theorem dX12_record_314 : decode cX12_record 314 = .ok (.ireturn, 1) := by decide +kernel
theorem dX12_make_0 : decode cX12_make 0 = .ok (.iload_n 1, 1) := by decide +kernel
theorem dX12_make_1 : decode cX12_make 1 = .ok (.i2l, 1) := by decide +kernel
theorem dX12_make_2 : decode cX12_make 2 = .ok (.invokestatic 133, 3) := by decide +kernel
theorem dX12_make_5 : decode cX12_make 5 = .ok (.ifCond .eq 17, 3) := by decide +kernel
theorem dX12_make_8 : decode cX12_make 8 = .ok (.iload_n 2, 1) := by decide +kernel
theorem dX12_make_9 : decode cX12_make 9 = .ok (.invokestatic 125, 3) := by decide +kernel
theorem dX12_make_12 : decode cX12_make 12 = .ok (.ifCond .eq 10, 3) := by decide +kernel
theorem dX12_make_15 : decode cX12_make 15 = .ok (.iload_n 3, 1) := by decide +kernel
theorem dX12_make_16 : decode cX12_make 16 = .ok (.invokestatic 148, 3) := by decide +kernel
theorem dX12_make_19 : decode cX12_make 19 = .ok (.ifCond .ne 5, 3) := by decide +kernel
theorem dX12_make_22 : decode cX12_make 22 = .ok (.iconst (-1), 1) := by decide +kernel
theorem dX12_make_23 : decode cX12_make 23 = .ok (.ireturn, 1) := by decide +kernel
theorem dX12_make_24 : decode cX12_make 24 = .ok (.iconst 0, 1) := by decide +kernel
theorem dX12_make_25 : decode cX12_make 25 = .ok (.istore 4, 2) := by decide +kernel
theorem dX12_make_27 : decode cX12_make 27 = .ok (.iload 4, 2) := by decide +kernel
theorem dX12_make_29 : decode cX12_make 29 = .ok (.iconst 5, 1) := by decide +kernel
theorem dX12_make_30 : decode cX12_make 30 = .ok (.if_icmp .ge 42, 3) := by decide +kernel
theorem dX12_make_33 : decode cX12_make 33 = .ok (.aload_n 0, 1) := by decide +kernel
theorem dX12_make_34 : decode cX12_make 34 = .ok (.getfield 82, 3) := by decide +kernel
theorem dX12_make_37 : decode cX12_make 37 = .ok (.iload 4, 2) := by decide +kernel
theorem dX12_make_39 : decode cX12_make 39 = .ok (.aload_n 0, 1) := by decide +kernel
theorem dX12_make_40 : decode cX12_make 40 = .ok (.getfield 69, 3) := by decide +kernel
theorem dX12_make_43 : decode cX12_make 43 = .ok (.iload 4, 2) := by decide +kernel
theorem dX12_make_45 : decode cX12_make 45 = .ok (.laload, 1) := by decide +kernel
theorem dX12_make_46 : decode cX12_make 46 = .ok (.lastore, 1) := by decide +kernel
theorem dX12_make_47 : decode cX12_make 47 = .ok (.aload_n 0, 1) := by decide +kernel
theorem dX12_make_48 : decode cX12_make 48 = .ok (.getfield 85, 3) := by decide +kernel
theorem dX12_make_51 : decode cX12_make 51 = .ok (.iload 4, 2) := by decide +kernel
theorem dX12_make_53 : decode cX12_make 53 = .ok (.aload_n 0, 1) := by decide +kernel
theorem dX12_make_54 : decode cX12_make 54 = .ok (.getfield 66, 3) := by decide +kernel
theorem dX12_make_57 : decode cX12_make 57 = .ok (.aload_n 0, 1) := by decide +kernel
theorem dX12_make_58 : decode cX12_make 58 = .ok (.getfield 72, 3) := by decide +kernel
theorem dX12_make_61 : decode cX12_make 61 = .ok (.iload 4, 2) := by decide +kernel
theorem dX12_make_63 : decode cX12_make 63 = .ok (.iaload, 1) := by decide +kernel
theorem dX12_make_64 : decode cX12_make 64 = .ok (.iaload, 1) := by decide +kernel
theorem dX12_make_65 : decode cX12_make 65 = .ok (.iastore, 1) := by decide +kernel
theorem dX12_make_66 : decode cX12_make 66 = .ok (.iinc 4 1, 3) := by decide +kernel
theorem dX12_make_69 : decode cX12_make 69 = .ok (.goto (-42), 3) := by decide +kernel
theorem dX12_make_72 : decode cX12_make 72 = .ok (.aload_n 0, 1) := by decide +kernel
theorem dX12_make_73 : decode cX12_make 73 = .ok (.iconst 3, 1) := by decide +kernel
theorem dX12_make_74 : decode cX12_make 74 = .ok (.iload_n 1, 1) := by decide +kernel
theorem dX12_make_75 : decode cX12_make 75 = .ok (.iconst 2, 1) := by decide +kernel
theorem dX12_make_76 : decode cX12_make 76 = .ok (.isub, 1) := by decide +kernel
theorem dX12_make_77 : decode cX12_make 77 = .ok (.imul, 1) := by decide +kernel
theorem dX12_make_78 : decode cX12_make 78 = .ok (.iload_n 2, 1) := by decide +kernel
theorem dX12_make_79 : decode cX12_make 79 = .ok (.iadd, 1) := by decide +kernel
theorem dX12_make_80 : decode cX12_make 80 = .ok (.iconst 0, 1) := by decide +kernel
theorem dX12_make_81 : decode cX12_make 81 = .ok (.invokevirtual 183, 3) := by decide +kernel
theorem dX12_make_84 : decode cX12_make 84 = .ok (.istore 4, 2) := by decide +kernel
theorem dX12_make_86 : decode cX12_make 86 = .ok (.aload_n 0, 1) := by decide +kernel
theorem dX12_make_87 : decode cX12_make 87 = .ok (.iload 4, 2) := by decide +kernel
theorem dX12_make_89 : decode cX12_make 89 = .ok (.ifCond .ge 11, 3) := by decide +kernel
theorem dX12_make_92 : decode cX12_make 92 = .ok (.bipush (-10), 2) := by decide +kernel
theorem dX12_make_94 : decode cX12_make 94 = .ok (.iload 4, 2) := by decide +kernel
theorem dX12_make_96 : decode cX12_make 96 = .ok (.isub, 1) := by decide +kernel
theorem dX12_make_97 : decode cX12_make 97 = .ok (.goto 4, 3) := by decide +kernel
theorem dX12_make_100 : decode cX12_make 100 = .ok (.iconst 0, 1) := by decide +kernel
theorem dX12_make_101 : decode cX12_make 101 = .ok (.putfield 187, 3) := by decide +kernel
theorem dX12_make_104 : decode cX12_make 104 = .ok (.aload_n 0, 1) := by decide +kernel
theorem dX12_make_105 : decode cX12_make 105 = .ok (.bipush (-3), 2) := by decide +kernel
theorem dX12_make_107 : decode cX12_make 107 = .ok (.putfield 78, 3) := by decide +kernel
theorem dX12_make_110 : decode cX12_make 110 = .ok (.aload_n 0, 1) := by decide +kernel
theorem dX12_make_111 : decode cX12_make 111 = .ok (.iconst 0, 1) := by decide +kernel
theorem dX12_make_112 : decode cX12_make 112 = .ok (.putfield 190, 3) := by decide +kernel
theorem dX12_make_115 : decode cX12_make 115 = .ok (.aload_n 0, 1) := by decide +kernel
theorem dX12_make_116 : decode cX12_make 116 = .ok (.getfield 66, 3) := by decide +kernel
theorem dX12_make_119 : decode cX12_make 119 = .ok (.iload_n 3, 1) := by decide +kernel
theorem dX12_make_120 : decode cX12_make 120 = .ok (.iload 4, 2) := by decide +kernel
theorem dX12_make_122 : decode cX12_make 122 = .ok (.ifCond .ge 12, 3) := by decide +kernel
theorem dX12_make_125 : decode cX12_make 125 = .ok (.aload_n 0, 1) := by decide +kernel
theorem dX12_make_126 : decode cX12_make 126 = .ok (.getfield 66, 3) := by decide +kernel
theorem dX12_make_129 : decode cX12_make 129 = .ok (.iload_n 3, 1) := by decide +kernel
theorem dX12_make_130 : decode cX12_make 130 = .ok (.iaload, 1) := by decide +kernel
theorem dX12_make_131 : decode cX12_make 131 = .ok (.goto 5, 3) := by decide +kernel
theorem dX12_make_134 : decode cX12_make 134 = .ok (.iload 4, 2) := by decide +kernel
theorem dX12_make_136 : decode cX12_make 136 = .ok (.iastore, 1) := by decide +kernel
theorem dX12_make_137 : decode cX12_make 137 = .ok (.aload_n 0, 1) := by decide +kernel
theorem dX12_make_138 : decode cX12_make 138 = .ok (.getfield 187, 3) := by decide +kernel
theorem dX12_make_141 : decode cX12_make 141 = .ok (.ireturn, 1) := by decide +kernel
theorem dX12_about_0 : decode cX12_about 0 = .ok (.iload_n 1, 1) := by decide +kernel
theorem dX12_about_1 : decode cX12_about 1 = .ok (.invokestatic 148, 3) := by decide +kernel
theorem dX12_about_4 : decode cX12_about 4 = .ok (.ifCond .eq 15, 3) := by decide +kernel
theorem dX12_about_7 : decode cX12_about 7 = .ok (.iload_n 2, 1) := by decide +kernel
theorem dX12_about_8 : decode cX12_about 8 = .ok (.i2l, 1) := by decide +kernel
theorem dX12_about_9 : decode cX12_about 9 = .ok (.lconst 0, 1) := by decide +kernel
theorem dX12_about_10 : decode cX12_about 10 = .ok (.ldc2_w 193, 3) := by decide +kernel
theorem dX12_about_13 : decode cX12_about 13 = .ok (.invokestatic 117, 3) := by decide +kernel
theorem dX12_about_16 : decode cX12_about 16 = .ok (.ifCond .ne 5, 3) := by decide +kernel
theorem dX12_about_19 : decode cX12_about 19 = .ok (.iconst (-1), 1) := by decide +kernel
theorem dX12_about_20 : decode cX12_about 20 = .ok (.ireturn, 1) := by decide +kernel
theorem dX12_about_21 : decode cX12_about 21 = .ok (.aload_n 0, 1) := by decide +kernel
theorem dX12_about_22 : decode cX12_about 22 = .ok (.getfield 66, 3) := by decide +kernel
theorem dX12_about_25 : decode cX12_about 25 = .ok (.iload_n 1, 1) := by decide +kernel
theorem dX12_about_26 : decode cX12_about 26 = .ok (.iaload, 1) := by decide +kernel
theorem dX12_about_27 : decode cX12_about 27 = .ok (.istore_n 3, 1) := by decide +kernel
theorem dX12_about_28 : decode cX12_about 28 = .ok (.aload_n 0, 1) := by decide +kernel
theorem dX12_about_29 : decode cX12_about 29 = .ok (.iload_n 3, 1) := by decide +kernel
theorem dX12_about_30 : decode cX12_about 30 = .ok (.invokevirtual 160, 3) := by decide +kernel
theorem dX12_about_33 : decode cX12_about 33 = .ok (.istore 4, 2) := by decide +kernel
theorem dX12_about_35 : decode cX12_about 35 = .ok (.iload 4, 2) := by decide +kernel
theorem dX12_about_37 : decode cX12_about 37 = .ok (.iconst 1, 1) := by decide +kernel
theorem dX12_about_38 : decode cX12_about 38 = .ok (.if_icmp .eq 9, 3) := by decide +kernel
theorem dX12_about_41 : decode cX12_about 41 = .ok (.iload 4, 2) := by decide +kernel
theorem dX12_about_43 : decode cX12_about 43 = .ok (.iconst 2, 1) := by decide +kernel
theorem dX12_about_44 : decode cX12_about 44 = .ok (.if_icmp .ne 7, 3) := by decide +kernel
theorem dX12_about_47 : decode cX12_about 47 = .ok (.iconst 1, 1) := by decide +kernel
theorem dX12_about_48 : decode cX12_about 48 = .ok (.goto 4, 3) := by decide +kernel
theorem dX12_about_51 : decode cX12_about 51 = .ok (.iconst 0, 1) := by decide +kernel
theorem dX12_about_52 : decode cX12_about 52 = .ok (.istore 5, 2) := by decide +kernel
theorem dX12_about_54 : decode cX12_about 54 = .ok (.iload_n 2, 1) := by decide +kernel
theorem dX12_about_55 : decode cX12_about 55 = .ok (.ifCond .ne 6, 3) := by decide +kernel
theorem dX12_about_58 : decode cX12_about 58 = .ok (.iload 4, 2) := by decide +kernel
theorem dX12_about_60 : decode cX12_about 60 = .ok (.ireturn, 1) := by decide +kernel
theorem dX12_about_61 : decode cX12_about 61 = .ok (.iload_n 2, 1) := by decide +kernel
theorem dX12_about_62 : decode cX12_about 62 = .ok (.iconst 3, 1) := by decide +kernel
theorem dX12_about_63 : decode cX12_about 63 = .ok (.if_icmp .ne 52, 3) := by decide +kernel
theorem dX12_about_66 : decode cX12_about 66 = .ok (.iload 4, 2) := by decide +kernel
theorem dX12_about_68 : decode cX12_about 68 = .ok (.ifCond .ne 7, 3) := by decide +kernel
theorem dX12_about_71 : decode cX12_about 71 = .ok (.iconst 0, 1) := by decide +kernel
theorem dX12_about_72 : decode cX12_about 72 = .ok (.goto 42, 3) := by decide +kernel
theorem dX12_about_75 : decode cX12_about 75 = .ok (.iload 5, 2) := by decide +kernel
theorem dX12_about_77 : decode cX12_about 77 = .ok (.ifCond .eq 10, 3) := by decide +kernel
theorem dX12_about_80 : decode cX12_about 80 = .ok (.iload_n 3, 1) := by decide +kernel
theorem dX12_about_81 : decode cX12_about 81 = .ok (.bipush 10, 2) := by decide +kernel
theorem dX12_about_83 : decode cX12_about 83 = .ok (.irem, 1) := by decide +kernel
theorem dX12_about_84 : decode cX12_about 84 = .ok (.goto 30, 3) := by decide +kernel
theorem dX12_about_87 : decode cX12_about 87 = .ok (.iload 4, 2) := by decide +kernel
theorem dX12_about_89 : decode cX12_about 89 = .ok (.iconst 3, 1) := by decide +kernel
theorem dX12_about_90 : decode cX12_about 90 = .ok (.if_icmp .ne 15, 3) := by decide +kernel
theorem dX12_about_93 : decode cX12_about 93 = .ok (.aload_n 0, 1) := by decide +kernel
theorem dX12_about_94 : decode cX12_about 94 = .ok (.getfield 45, 3) := by decide +kernel
theorem dX12_about_97 : decode cX12_about 97 = .ok (.iload_n 3, 1) := by decide +kernel
theorem dX12_about_98 : decode cX12_about 98 = .ok (.bipush 100, 2) := by decide +kernel
theorem dX12_about_100 : decode cX12_about 100 = .ok (.isub, 1) := by decide +kernel
theorem dX12_about_101 : decode cX12_about 101 = .ok (.iaload, 1) := by decide +kernel
theorem dX12_about_102 : decode cX12_about 102 = .ok (.goto 12, 3) := by decide +kernel
theorem dX12_about_105 : decode cX12_about 105 = .ok (.aload_n 0, 1) := by decide +kernel
theorem dX12_about_106 : decode cX12_about 106 = .ok (.getfield 55, 3) := by decide +kernel
theorem dX12_about_109 : decode cX12_about 109 = .ok (.iload_n 3, 1) := by decide +kernel
theorem dX12_about_110 : decode cX12_about 110 = .ok (.ldc 147, 2) := by decide +kernel
theorem dX12_about_112 : decode cX12_about 112 = .ok (.isub, 1) := by decide +kernel
theorem dX12_about_113 : decode cX12_about 113 = .ok (.iaload, 1) := by decide +kernel
theorem dX12_about_114 : decode cX12_about 114 = .ok (.ireturn, 1) := by decide +kernel
theorem dX12_about_115 : decode cX12_about 115 = .ok (.iload 4, 2) := by decide +kernel
theorem dX12_about_117 : decode cX12_about 117 = .ok (.ifCond .eq 9, 3) := by decide +kernel
theorem dX12_about_120 : decode cX12_about 120 = .ok (.iload 4, 2) := by decide +kernel
theorem dX12_about_122 : decode cX12_about 122 = .ok (.iconst 3, 1) := by decide +kernel
theorem dX12_about_123 : decode cX12_about 123 = .ok (.if_icmp .ne 6, 3) := by decide +kernel
theorem dX12_about_126 : decode cX12_about 126 = .ok (.bipush (-3), 2) := by decide +kernel
theorem dX12_about_128 : decode cX12_about 128 = .ok (.ireturn, 1) := by decide +kernel
theorem dX12_about_129 : decode cX12_about 129 = .ok (.iload 5, 2) := by decide +kernel
theorem dX12_about_131 : decode cX12_about 131 = .ok (.ifCond .eq 10, 3) := by decide +kernel
theorem dX12_about_134 : decode cX12_about 134 = .ok (.iload_n 3, 1) := by decide +kernel
theorem dX12_about_135 : decode cX12_about 135 = .ok (.bipush 10, 2) := by decide +kernel
theorem dX12_about_137 : decode cX12_about 137 = .ok (.idiv, 1) := by decide +kernel
theorem dX12_about_138 : decode cX12_about 138 = .ok (.goto 12, 3) := by decide +kernel
theorem dX12_about_141 : decode cX12_about 141 = .ok (.aload_n 0, 1) := by decide +kernel
theorem dX12_about_142 : decode cX12_about 142 = .ok (.getfield 52, 3) := by decide +kernel
theorem dX12_about_145 : decode cX12_about 145 = .ok (.iload_n 3, 1) := by decide +kernel
theorem dX12_about_146 : decode cX12_about 146 = .ok (.ldc 147, 2) := by decide +kernel
theorem dX12_about_148 : decode cX12_about 148 = .ok (.isub, 1) := by decide +kernel
theorem dX12_about_149 : decode cX12_about 149 = .ok (.iaload, 1) := by decide +kernel
theorem dX12_about_150 : decode cX12_about 150 = .ok (.istore 6, 2) := by decide +kernel
theorem dX12_about_152 : decode cX12_about 152 = .ok (.iload_n 2, 1) := by decide +kernel
theorem dX12_about_153 : decode cX12_about 153 = .ok (.iconst 2, 1) := by decide +kernel
theorem dX12_about_154 : decode cX12_about 154 = .ok (.if_icmp .ne 10, 3) := by decide +kernel
theorem dX12_about_157 : decode cX12_about 157 = .ok (.iload 6, 2) := by decide +kernel
theorem dX12_about_159 : decode cX12_about 159 = .ok (.iconst 3, 1) := by decide +kernel
theorem dX12_about_160 : decode cX12_about 160 = .ok (.irem, 1) := by decide +kernel
theorem dX12_about_161 : decode cX12_about 161 = .ok (.goto 21, 3) := by decide +kernel
theorem dX12_about_164 : decode cX12_about 164 = .ok (.iload 5, 2) := by decide +kernel
theorem dX12_about_166 : decode cX12_about 166 = .ok (.ifCond .eq 10, 3) := by decide +kernel
theorem dX12_about_169 : decode cX12_about 169 = .ok (.iload 6, 2) := by decide +kernel
theorem dX12_about_171 : decode cX12_about 171 = .ok (.iconst 3, 1) := by decide +kernel
theorem dX12_about_172 : decode cX12_about 172 = .ok (.idiv, 1) := by decide +kernel
theorem dX12_about_173 : decode cX12_about 173 = .ok (.goto 9, 3) := by decide +kernel
theorem dX12_about_176 : decode cX12_about 176 = .ok (.iconst 2, 1) := by decide +kernel
theorem dX12_about_177 : decode cX12_about 177 = .ok (.iload 6, 2) := by decide +kernel
theorem dX12_about_179 : decode cX12_about 179 = .ok (.iconst 3, 1) := by decide +kernel
theorem dX12_about_180 : decode cX12_about 180 = .ok (.idiv, 1) := by decide +kernel
theorem dX12_about_181 : decode cX12_about 181 = .ok (.iadd, 1) := by decide +kernel
theorem dX12_about_182 : decode cX12_about 182 = .ok (.ireturn, 1) := by decide +kernel
theorem dX12_partAt_0 : decode cX12_partAt 0 = .ok (.iload_n 1, 1) := by decide +kernel
theorem dX12_partAt_1 : decode cX12_partAt 1 = .ok (.invokestatic 148, 3) := by decide +kernel
theorem dX12_partAt_4 : decode cX12_partAt 4 = .ok (.ifCond .eq 17, 3) := by decide +kernel
theorem dX12_partAt_7 : decode cX12_partAt 7 = .ok (.aload_n 0, 1) := by decide +kernel
theorem dX12_partAt_8 : decode cX12_partAt 8 = .ok (.aload_n 0, 1) := by decide +kernel
theorem dX12_partAt_9 : decode cX12_partAt 9 = .ok (.getfield 66, 3) := by decide +kernel
