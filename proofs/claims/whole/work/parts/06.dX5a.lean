theorem dX5_init_0 : decode cX5_init 0 = .ok (.aload_n 0, 1) := by decide +kernel
theorem dX5_init_1 : decode cX5_init 1 = .ok (.invokespecial 1, 3) := by decide +kernel
theorem dX5_init_4 : decode cX5_init 4 = .ok (.aload_n 0, 1) := by decide +kernel
theorem dX5_init_5 : decode cX5_init 5 = .ok (.bipush 10, 2) := by decide +kernel
theorem dX5_init_7 : decode cX5_init 7 = .ok (.newarray .int, 2) := by decide +kernel
theorem dX5_init_9 : decode cX5_init 9 = .ok (.putfield 7, 3) := by decide +kernel
theorem dX5_init_12 : decode cX5_init 12 = .ok (.aload_n 0, 1) := by decide +kernel
theorem dX5_init_13 : decode cX5_init 13 = .ok (.bipush 10, 2) := by decide +kernel
theorem dX5_init_15 : decode cX5_init 15 = .ok (.newarray .int, 2) := by decide +kernel
theorem dX5_init_17 : decode cX5_init 17 = .ok (.putfield 13, 3) := by decide +kernel
theorem dX5_init_20 : decode cX5_init 20 = .ok (.aload_n 0, 1) := by decide +kernel
theorem dX5_init_21 : decode cX5_init 21 = .ok (.bipush 10, 2) := by decide +kernel
theorem dX5_init_23 : decode cX5_init 23 = .ok (.newarray .int, 2) := by decide +kernel
theorem dX5_init_25 : decode cX5_init 25 = .ok (.putfield 16, 3) := by decide +kernel
theorem dX5_init_28 : decode cX5_init 28 = .ok (.aload_n 0, 1) := by decide +kernel
theorem dX5_init_29 : decode cX5_init 29 = .ok (.bipush 10, 2) := by decide +kernel
theorem dX5_init_31 : decode cX5_init 31 = .ok (.newarray .int, 2) := by decide +kernel
theorem dX5_init_33 : decode cX5_init 33 = .ok (.putfield 19, 3) := by decide +kernel
theorem dX5_init_36 : decode cX5_init 36 = .ok (.aload_n 0, 1) := by decide +kernel
theorem dX5_init_37 : decode cX5_init 37 = .ok (.bipush 10, 2) := by decide +kernel
theorem dX5_init_39 : decode cX5_init 39 = .ok (.newarray .int, 2) := by decide +kernel
theorem dX5_init_41 : decode cX5_init 41 = .ok (.putfield 22, 3) := by decide +kernel
theorem dX5_init_44 : decode cX5_init 44 = .ok (.aload_n 0, 1) := by decide +kernel
theorem dX5_init_45 : decode cX5_init 45 = .ok (.bipush 100, 2) := by decide +kernel
theorem dX5_init_47 : decode cX5_init 47 = .ok (.newarray .int, 2) := by decide +kernel
theorem dX5_init_49 : decode cX5_init 49 = .ok (.putfield 25, 3) := by decide +kernel
theorem dX5_init_52 : decode cX5_init 52 = .ok (.aload_n 0, 1) := by decide +kernel
theorem dX5_init_53 : decode cX5_init 53 = .ok (.bipush 100, 2) := by decide +kernel
theorem dX5_init_55 : decode cX5_init 55 = .ok (.newarray .boolean, 2) := by decide +kernel
theorem dX5_init_57 : decode cX5_init 57 = .ok (.putfield 28, 3) := by decide +kernel
theorem dX5_init_60 : decode cX5_init 60 = .ok (.aload_n 0, 1) := by decide +kernel
theorem dX5_init_61 : decode cX5_init 61 = .ok (.bipush 100, 2) := by decide +kernel
theorem dX5_init_63 : decode cX5_init 63 = .ok (.newarray .boolean, 2) := by decide +kernel
theorem dX5_init_65 : decode cX5_init 65 = .ok (.putfield 32, 3) := by decide +kernel
theorem dX5_init_68 : decode cX5_init 68 = .ok (.aload_n 0, 1) := by decide +kernel
theorem dX5_init_69 : decode cX5_init 69 = .ok (.bipush 10, 2) := by decide +kernel
theorem dX5_init_71 : decode cX5_init 71 = .ok (.newarray .int, 2) := by decide +kernel
theorem dX5_init_73 : decode cX5_init 73 = .ok (.dup, 1) := by decide +kernel
theorem dX5_init_74 : decode cX5_init 74 = .ok (.iconst 0, 1) := by decide +kernel
theorem dX5_init_75 : decode cX5_init 75 = .ok (.bipush (-9), 2) := by decide +kernel
theorem dX5_init_77 : decode cX5_init 77 = .ok (.iastore, 1) := by decide +kernel
theorem dX5_init_78 : decode cX5_init 78 = .ok (.dup, 1) := by decide +kernel
theorem dX5_init_79 : decode cX5_init 79 = .ok (.iconst 1, 1) := by decide +kernel
theorem dX5_init_80 : decode cX5_init 80 = .ok (.bipush (-9), 2) := by decide +kernel
theorem dX5_init_82 : decode cX5_init 82 = .ok (.iastore, 1) := by decide +kernel
theorem dX5_init_83 : decode cX5_init 83 = .ok (.dup, 1) := by decide +kernel
theorem dX5_init_84 : decode cX5_init 84 = .ok (.iconst 2, 1) := by decide +kernel
theorem dX5_init_85 : decode cX5_init 85 = .ok (.bipush (-9), 2) := by decide +kernel
theorem dX5_init_87 : decode cX5_init 87 = .ok (.iastore, 1) := by decide +kernel
theorem dX5_init_88 : decode cX5_init 88 = .ok (.dup, 1) := by decide +kernel
theorem dX5_init_89 : decode cX5_init 89 = .ok (.iconst 3, 1) := by decide +kernel
theorem dX5_init_90 : decode cX5_init 90 = .ok (.bipush (-9), 2) := by decide +kernel
theorem dX5_init_92 : decode cX5_init 92 = .ok (.iastore, 1) := by decide +kernel
theorem dX5_init_93 : decode cX5_init 93 = .ok (.dup, 1) := by decide +kernel
theorem dX5_init_94 : decode cX5_init 94 = .ok (.iconst 4, 1) := by decide +kernel
theorem dX5_init_95 : decode cX5_init 95 = .ok (.bipush (-9), 2) := by decide +kernel
theorem dX5_init_97 : decode cX5_init 97 = .ok (.iastore, 1) := by decide +kernel
theorem dX5_init_98 : decode cX5_init 98 = .ok (.dup, 1) := by decide +kernel
theorem dX5_init_99 : decode cX5_init 99 = .ok (.iconst 5, 1) := by decide +kernel
theorem dX5_init_100 : decode cX5_init 100 = .ok (.bipush (-9), 2) := by decide +kernel
theorem dX5_init_102 : decode cX5_init 102 = .ok (.iastore, 1) := by decide +kernel
theorem dX5_init_103 : decode cX5_init 103 = .ok (.dup, 1) := by decide +kernel
theorem dX5_init_104 : decode cX5_init 104 = .ok (.bipush 6, 2) := by decide +kernel
theorem dX5_init_106 : decode cX5_init 106 = .ok (.bipush (-9), 2) := by decide +kernel
theorem dX5_init_108 : decode cX5_init 108 = .ok (.iastore, 1) := by decide +kernel
theorem dX5_init_109 : decode cX5_init 109 = .ok (.dup, 1) := by decide +kernel
theorem dX5_init_110 : decode cX5_init 110 = .ok (.bipush 7, 2) := by decide +kernel
theorem dX5_init_112 : decode cX5_init 112 = .ok (.bipush (-9), 2) := by decide +kernel
theorem dX5_init_114 : decode cX5_init 114 = .ok (.iastore, 1) := by decide +kernel
theorem dX5_init_115 : decode cX5_init 115 = .ok (.dup, 1) := by decide +kernel
theorem dX5_init_116 : decode cX5_init 116 = .ok (.bipush 8, 2) := by decide +kernel
theorem dX5_init_118 : decode cX5_init 118 = .ok (.bipush (-9), 2) := by decide +kernel
theorem dX5_init_120 : decode cX5_init 120 = .ok (.iastore, 1) := by decide +kernel
theorem dX5_init_121 : decode cX5_init 121 = .ok (.dup, 1) := by decide +kernel
theorem dX5_init_122 : decode cX5_init 122 = .ok (.bipush 9, 2) := by decide +kernel
theorem dX5_init_124 : decode cX5_init 124 = .ok (.bipush (-9), 2) := by decide +kernel
theorem dX5_init_126 : decode cX5_init 126 = .ok (.iastore, 1) := by decide +kernel
theorem dX5_init_127 : decode cX5_init 127 = .ok (.putfield 35, 3) := by decide +kernel
theorem dX5_init_130 : decode cX5_init 130 = .ok (.aload_n 0, 1) := by decide +kernel
theorem dX5_init_131 : decode cX5_init 131 = .ok (.bipush 10, 2) := by decide +kernel
theorem dX5_init_133 : decode cX5_init 133 = .ok (.newarray .int, 2) := by decide +kernel
theorem dX5_init_135 : decode cX5_init 135 = .ok (.putfield 38, 3) := by decide +kernel
theorem dX5_init_138 : decode cX5_init 138 = .ok (.aload_n 0, 1) := by decide +kernel
theorem dX5_init_139 : decode cX5_init 139 = .ok (.bipush 10, 2) := by decide +kernel
theorem dX5_init_141 : decode cX5_init 141 = .ok (.newarray .int, 2) := by decide +kernel
theorem dX5_init_143 : decode cX5_init 143 = .ok (.putfield 41, 3) := by decide +kernel
theorem dX5_init_146 : decode cX5_init 146 = .ok (.aload_n 0, 1) := by decide +kernel
theorem dX5_init_147 : decode cX5_init 147 = .ok (.bipush 10, 2) := by decide +kernel
theorem dX5_init_149 : decode cX5_init 149 = .ok (.newarray .int, 2) := by decide +kernel
theorem dX5_init_151 : decode cX5_init 151 = .ok (.dup, 1) := by decide +kernel
theorem dX5_init_152 : decode cX5_init 152 = .ok (.iconst 0, 1) := by decide +kernel
theorem dX5_init_153 : decode cX5_init 153 = .ok (.bipush (-9), 2) := by decide +kernel
theorem dX5_init_155 : decode cX5_init 155 = .ok (.iastore, 1) := by decide +kernel
theorem dX5_init_156 : decode cX5_init 156 = .ok (.dup, 1) := by decide +kernel
theorem dX5_init_157 : decode cX5_init 157 = .ok (.iconst 1, 1) := by decide +kernel
theorem dX5_init_158 : decode cX5_init 158 = .ok (.bipush (-9), 2) := by decide +kernel
theorem dX5_init_160 : decode cX5_init 160 = .ok (.iastore, 1) := by decide +kernel
theorem dX5_init_161 : decode cX5_init 161 = .ok (.dup, 1) := by decide +kernel
theorem dX5_init_162 : decode cX5_init 162 = .ok (.iconst 2, 1) := by decide +kernel
theorem dX5_init_163 : decode cX5_init 163 = .ok (.bipush (-9), 2) := by decide +kernel
theorem dX5_init_165 : decode cX5_init 165 = .ok (.iastore, 1) := by decide +kernel
theorem dX5_init_166 : decode cX5_init 166 = .ok (.dup, 1) := by decide +kernel
theorem dX5_init_167 : decode cX5_init 167 = .ok (.iconst 3, 1) := by decide +kernel
theorem dX5_init_168 : decode cX5_init 168 = .ok (.bipush (-9), 2) := by decide +kernel
theorem dX5_init_170 : decode cX5_init 170 = .ok (.iastore, 1) := by decide +kernel
theorem dX5_init_171 : decode cX5_init 171 = .ok (.dup, 1) := by decide +kernel
theorem dX5_init_172 : decode cX5_init 172 = .ok (.iconst 4, 1) := by decide +kernel
theorem dX5_init_173 : decode cX5_init 173 = .ok (.bipush (-9), 2) := by decide +kernel
theorem dX5_init_175 : decode cX5_init 175 = .ok (.iastore, 1) := by decide +kernel
theorem dX5_init_176 : decode cX5_init 176 = .ok (.dup, 1) := by decide +kernel
theorem dX5_init_177 : decode cX5_init 177 = .ok (.iconst 5, 1) := by decide +kernel
theorem dX5_init_178 : decode cX5_init 178 = .ok (.bipush (-9), 2) := by decide +kernel
theorem dX5_init_180 : decode cX5_init 180 = .ok (.iastore, 1) := by decide +kernel
theorem dX5_init_181 : decode cX5_init 181 = .ok (.dup, 1) := by decide +kernel
theorem dX5_init_182 : decode cX5_init 182 = .ok (.bipush 6, 2) := by decide +kernel
theorem dX5_init_184 : decode cX5_init 184 = .ok (.bipush (-9), 2) := by decide +kernel
theorem dX5_init_186 : decode cX5_init 186 = .ok (.iastore, 1) := by decide +kernel
theorem dX5_init_187 : decode cX5_init 187 = .ok (.dup, 1) := by decide +kernel
theorem dX5_init_188 : decode cX5_init 188 = .ok (.bipush 7, 2) := by decide +kernel
theorem dX5_init_190 : decode cX5_init 190 = .ok (.bipush (-9), 2) := by decide +kernel
theorem dX5_init_192 : decode cX5_init 192 = .ok (.iastore, 1) := by decide +kernel
theorem dX5_init_193 : decode cX5_init 193 = .ok (.dup, 1) := by decide +kernel
theorem dX5_init_194 : decode cX5_init 194 = .ok (.bipush 8, 2) := by decide +kernel
theorem dX5_init_196 : decode cX5_init 196 = .ok (.bipush (-9), 2) := by decide +kernel
theorem dX5_init_198 : decode cX5_init 198 = .ok (.iastore, 1) := by decide +kernel
theorem dX5_init_199 : decode cX5_init 199 = .ok (.dup, 1) := by decide +kernel
theorem dX5_init_200 : decode cX5_init 200 = .ok (.bipush 9, 2) := by decide +kernel
theorem dX5_init_202 : decode cX5_init 202 = .ok (.bipush (-9), 2) := by decide +kernel
theorem dX5_init_204 : decode cX5_init 204 = .ok (.iastore, 1) := by decide +kernel
theorem dX5_init_205 : decode cX5_init 205 = .ok (.putfield 44, 3) := by decide +kernel
theorem dX5_init_208 : decode cX5_init 208 = .ok (.aload_n 0, 1) := by decide +kernel
theorem dX5_init_209 : decode cX5_init 209 = .ok (.sipush 600, 3) := by decide +kernel
theorem dX5_init_212 : decode cX5_init 212 = .ok (.newarray .int, 2) := by decide +kernel
theorem dX5_init_214 : decode cX5_init 214 = .ok (.putfield 47, 3) := by decide +kernel
theorem dX5_init_217 : decode cX5_init 217 = .ok (.aload_n 0, 1) := by decide +kernel
theorem dX5_init_218 : decode cX5_init 218 = .ok (.bipush (-9), 2) := by decide +kernel
theorem dX5_init_220 : decode cX5_init 220 = .ok (.putfield 50, 3) := by decide +kernel
theorem dX5_init_223 : decode cX5_init 223 = .ok (.aload_n 0, 1) := by decide +kernel
theorem dX5_init_224 : decode cX5_init 224 = .ok (.bipush 10, 2) := by decide +kernel
theorem dX5_init_226 : decode cX5_init 226 = .ok (.newarray .int, 2) := by decide +kernel
theorem dX5_init_228 : decode cX5_init 228 = .ok (.putfield 54, 3) := by decide +kernel
theorem dX5_init_231 : decode cX5_init 231 = .ok (.aload_n 0, 1) := by decide +kernel
theorem dX5_init_232 : decode cX5_init 232 = .ok (.bipush 10, 2) := by decide +kernel
theorem dX5_init_234 : decode cX5_init 234 = .ok (.newarray .boolean, 2) := by decide +kernel
theorem dX5_init_236 : decode cX5_init 236 = .ok (.putfield 57, 3) := by decide +kernel
theorem dX5_init_239 : decode cX5_init 239 = .ok (.aload_n 0, 1) := by decide +kernel
theorem dX5_init_240 : decode cX5_init 240 = .ok (.bipush 10, 2) := by decide +kernel
theorem dX5_init_242 : decode cX5_init 242 = .ok (.newarray .boolean, 2) := by decide +kernel
theorem dX5_init_244 : decode cX5_init 244 = .ok (.putfield 60, 3) := by decide +kernel
theorem dX5_init_247 : decode cX5_init 247 = .ok (.aload_n 0, 1) := by decide +kernel
theorem dX5_init_248 : decode cX5_init 248 = .ok (.sipush 3640, 3) := by decide +kernel
theorem dX5_init_251 : decode cX5_init 251 = .ok (.newarray .boolean, 2) := by decide +kernel
theorem dX5_init_253 : decode cX5_init 253 = .ok (.putfield 63, 3) := by decide +kernel
theorem dX5_init_256 : decode cX5_init 256 = .ok (.aload_n 0, 1) := by decide +kernel
theorem dX5_init_257 : decode cX5_init 257 = .ok (.bipush 100, 2) := by decide +kernel
theorem dX5_init_259 : decode cX5_init 259 = .ok (.newarray .boolean, 2) := by decide +kernel
theorem dX5_init_261 : decode cX5_init 261 = .ok (.putfield 66, 3) := by decide +kernel
theorem dX5_init_264 : decode cX5_init 264 = .ok (.aload_n 0, 1) := by decide +kernel
theorem dX5_init_265 : decode cX5_init 265 = .ok (.bipush 10, 2) := by decide +kernel
theorem dX5_init_267 : decode cX5_init 267 = .ok (.newarray .int, 2) := by decide +kernel
theorem dX5_init_269 : decode cX5_init 269 = .ok (.putfield 69, 3) := by decide +kernel
theorem dX5_init_272 : decode cX5_init 272 = .ok (.aload_n 0, 1) := by decide +kernel
theorem dX5_init_273 : decode cX5_init 273 = .ok (.bipush 10, 2) := by decide +kernel
theorem dX5_init_275 : decode cX5_init 275 = .ok (.newarray .int, 2) := by decide +kernel
theorem dX5_init_277 : decode cX5_init 277 = .ok (.putfield 72, 3) := by decide +kernel
theorem dX5_init_280 : decode cX5_init 280 = .ok (.aload_n 0, 1) := by decide +kernel
theorem dX5_init_281 : decode cX5_init 281 = .ok (.bipush 10, 2) := by decide +kernel
theorem dX5_init_283 : decode cX5_init 283 = .ok (.newarray .int, 2) := by decide +kernel
theorem dX5_init_285 : decode cX5_init 285 = .ok (.putfield 75, 3) := by decide +kernel
theorem dX5_init_288 : decode cX5_init 288 = .ok (.return_, 1) := by decide +kernel
theorem dX5_in_0 : decode cX5_in 0 = .ok (.lload_n 0, 1) := by decide +kernel
theorem dX5_in_1 : decode cX5_in 1 = .ok (.lload_n 2, 1) := by decide +kernel
theorem dX5_in_2 : decode cX5_in 2 = .ok (.lcmp, 1) := by decide +kernel
theorem dX5_in_3 : decode cX5_in 3 = .ok (.ifCond .lt 14, 3) := by decide +kernel
theorem dX5_in_6 : decode cX5_in 6 = .ok (.lload_n 0, 1) := by decide +kernel
theorem dX5_in_7 : decode cX5_in 7 = .ok (.lload 4, 2) := by decide +kernel
theorem dX5_in_9 : decode cX5_in 9 = .ok (.lcmp, 1) := by decide +kernel
theorem dX5_in_10 : decode cX5_in 10 = .ok (.ifCond .gt 7, 3) := by decide +kernel
theorem dX5_in_13 : decode cX5_in 13 = .ok (.iconst 1, 1) := by decide +kernel
theorem dX5_in_14 : decode cX5_in 14 = .ok (.goto 4, 3) := by decide +kernel
theorem dX5_in_17 : decode cX5_in 17 = .ok (.iconst 0, 1) := by decide +kernel
theorem dX5_in_18 : decode cX5_in 18 = .ok (.ireturn, 1) := by decide +kernel
set_option maxRecDepth 20000 in
theorem ggX5_noServant_X5_in : GoodIn wsX5_noServant wsX5_in := goodIn_r _ [5] rfl (by decide +kernel)
set_option maxRecDepth 20000 in
theorem gX5_noServant_X5_in : GoodIn wsX5_noServant (va_wsS RX5 84 yX5_in wsX5_in) := goodIn_app (goodIn_r _ [2, 3, 4] rfl (by decide +kernel)) ggX5_noServant_X5_in
theorem dX5_noServant_0 : decode cX5_noServant 0 = .ok (.iload_n 1, 1) := by decide +kernel
theorem dX5_noServant_1 : decode cX5_noServant 1 = .ok (.i2l, 1) := by decide +kernel
theorem dX5_noServant_2 : decode cX5_noServant 2 = .ok (.lconst 0, 1) := by decide +kernel
theorem dX5_noServant_3 : decode cX5_noServant 3 = .ok (.aload_n 0, 1) := by decide +kernel
theorem dX5_noServant_4 : decode cX5_noServant 4 = .ok (.getfield 81, 3) := by decide +kernel
theorem dX5_noServant_7 : decode cX5_noServant 7 = .ok (.iconst 1, 1) := by decide +kernel
theorem dX5_noServant_8 : decode cX5_noServant 8 = .ok (.isub, 1) := by decide +kernel
theorem dX5_noServant_9 : decode cX5_noServant 9 = .ok (.i2l, 1) := by decide +kernel
theorem dX5_noServant_10 : decode cX5_noServant 10 = .ok (.invokestatic 84, 3) := by decide +kernel
theorem dX5_noServant_13 : decode cX5_noServant 13 = .ok (.ifCond .ne 7, 3) := by decide +kernel
theorem dX5_noServant_16 : decode cX5_noServant 16 = .ok (.iconst 1, 1) := by decide +kernel
theorem dX5_noServant_17 : decode cX5_noServant 17 = .ok (.goto 4, 3) := by decide +kernel
theorem dX5_noServant_20 : decode cX5_noServant 20 = .ok (.iconst 0, 1) := by decide +kernel
theorem dX5_noServant_21 : decode cX5_noServant 21 = .ok (.ireturn, 1) := by decide +kernel
set_option maxRecDepth 20000 in
theorem ggX5_noMaster_X5_in : GoodIn wsX5_noMaster wsX5_in := goodIn_r _ [5] rfl (by decide +kernel)
set_option maxRecDepth 20000 in
theorem gX5_noMaster_X5_in : GoodIn wsX5_noMaster (va_wsS RX5 84 yX5_in wsX5_in) := goodIn_app (goodIn_r _ [2, 3, 4] rfl (by decide +kernel)) ggX5_noMaster_X5_in
theorem dX5_noMaster_0 : decode cX5_noMaster 0 = .ok (.iload_n 1, 1) := by decide +kernel
theorem dX5_noMaster_1 : decode cX5_noMaster 1 = .ok (.i2l, 1) := by decide +kernel
theorem dX5_noMaster_2 : decode cX5_noMaster 2 = .ok (.lconst 0, 1) := by decide +kernel
theorem dX5_noMaster_3 : decode cX5_noMaster 3 = .ok (.aload_n 0, 1) := by decide +kernel
theorem dX5_noMaster_4 : decode cX5_noMaster 4 = .ok (.getfield 88, 3) := by decide +kernel
theorem dX5_noMaster_7 : decode cX5_noMaster 7 = .ok (.iconst 1, 1) := by decide +kernel
theorem dX5_noMaster_8 : decode cX5_noMaster 8 = .ok (.isub, 1) := by decide +kernel
theorem dX5_noMaster_9 : decode cX5_noMaster 9 = .ok (.i2l, 1) := by decide +kernel
theorem dX5_noMaster_10 : decode cX5_noMaster 10 = .ok (.invokestatic 84, 3) := by decide +kernel
theorem dX5_noMaster_13 : decode cX5_noMaster 13 = .ok (.ifCond .ne 7, 3) := by decide +kernel
theorem dX5_noMaster_16 : decode cX5_noMaster 16 = .ok (.iconst 1, 1) := by decide +kernel
theorem dX5_noMaster_17 : decode cX5_noMaster 17 = .ok (.goto 4, 3) := by decide +kernel
theorem dX5_noMaster_20 : decode cX5_noMaster 20 = .ok (.iconst 0, 1) := by decide +kernel
theorem dX5_noMaster_21 : decode cX5_noMaster 21 = .ok (.ireturn, 1) := by decide +kernel
theorem dX5_held_0 : decode cX5_held 0 = .ok (.aload_n 0, 1) := by decide +kernel
theorem dX5_held_1 : decode cX5_held 1 = .ok (.getfield 25, 3) := by decide +kernel
theorem dX5_held_4 : decode cX5_held 4 = .ok (.bipush 10, 2) := by decide +kernel
theorem dX5_held_6 : decode cX5_held 6 = .ok (.iload_n 1, 1) := by decide +kernel
theorem dX5_held_7 : decode cX5_held 7 = .ok (.imul, 1) := by decide +kernel
theorem dX5_held_8 : decode cX5_held 8 = .ok (.iload_n 2, 1) := by decide +kernel
theorem dX5_held_9 : decode cX5_held 9 = .ok (.iadd, 1) := by decide +kernel
theorem dX5_held_10 : decode cX5_held 10 = .ok (.iaload, 1) := by decide +kernel
theorem dX5_held_11 : decode cX5_held 11 = .ok (.ifCond .ne 7, 3) := by decide +kernel
theorem dX5_held_14 : decode cX5_held 14 = .ok (.iconst 5, 1) := by decide +kernel
theorem dX5_held_15 : decode cX5_held 15 = .ok (.goto 14, 3) := by decide +kernel
theorem dX5_held_18 : decode cX5_held 18 = .ok (.aload_n 0, 1) := by decide +kernel
theorem dX5_held_19 : decode cX5_held 19 = .ok (.getfield 25, 3) := by decide +kernel
theorem dX5_held_22 : decode cX5_held 22 = .ok (.bipush 10, 2) := by decide +kernel
theorem dX5_held_24 : decode cX5_held 24 = .ok (.iload_n 1, 1) := by decide +kernel
theorem dX5_held_25 : decode cX5_held 25 = .ok (.imul, 1) := by decide +kernel
theorem dX5_held_26 : decode cX5_held 26 = .ok (.iload_n 2, 1) := by decide +kernel
theorem dX5_held_27 : decode cX5_held 27 = .ok (.iadd, 1) := by decide +kernel
theorem dX5_held_28 : decode cX5_held 28 = .ok (.iaload, 1) := by decide +kernel
theorem dX5_held_29 : decode cX5_held 29 = .ok (.ireturn, 1) := by decide +kernel
set_option maxRecDepth 20000 in
theorem ggX5_offerOf_X5_held : GoodIn wsX5_offerOf wsX5_held := goodIn_r _ [10, 11, 12, 13, 14, 15, 16, 17, 18, 19, 20, 21, 22, 23, 24, 25, 26, 27, 28, 29, 30, 31, 32, 33, 34, 35, 36, 37, 38, 39] rfl (by decide +kernel)
set_option maxRecDepth 20000 in
theorem gX5_offerOf_X5_held : GoodIn wsX5_offerOf (wsV RX5 91 RX5 yX5_held wsX5_held) := goodIn_app (goodIn_r _ [6, 7, 8, 9] rfl (by decide +kernel)) ggX5_offerOf_X5_held
theorem dX5_offerOf_0 : decode cX5_offerOf 0 = .ok (.aload_n 0, 1) := by decide +kernel
theorem dX5_offerOf_1 : decode cX5_offerOf 1 = .ok (.getfield 22, 3) := by decide +kernel
theorem dX5_offerOf_4 : decode cX5_offerOf 4 = .ok (.iload_n 1, 1) := by decide +kernel
theorem dX5_offerOf_5 : decode cX5_offerOf 5 = .ok (.iaload, 1) := by decide +kernel
theorem dX5_offerOf_6 : decode cX5_offerOf 6 = .ok (.iconst 3, 1) := by decide +kernel
theorem dX5_offerOf_7 : decode cX5_offerOf 7 = .ok (.bipush 9, 2) := by decide +kernel
theorem dX5_offerOf_9 : decode cX5_offerOf 9 = .ok (.aload_n 0, 1) := by decide +kernel
theorem dX5_offerOf_10 : decode cX5_offerOf 10 = .ok (.iload_n 1, 1) := by decide +kernel
theorem dX5_offerOf_11 : decode cX5_offerOf 11 = .ok (.iload_n 2, 1) := by decide +kernel
theorem dX5_offerOf_12 : decode cX5_offerOf 12 = .ok (.invokevirtual 91, 3) := by decide +kernel
theorem dX5_offerOf_15 : decode cX5_offerOf 15 = .ok (.isub, 1) := by decide +kernel
theorem dX5_offerOf_16 : decode cX5_offerOf 16 = .ok (.imul, 1) := by decide +kernel
theorem dX5_offerOf_17 : decode cX5_offerOf 17 = .ok (.isub, 1) := by decide +kernel
theorem dX5_offerOf_18 : decode cX5_offerOf 18 = .ok (.istore_n 3, 1) := by decide +kernel
theorem dX5_offerOf_19 : decode cX5_offerOf 19 = .ok (.aload_n 0, 1) := by decide +kernel
theorem dX5_offerOf_20 : decode cX5_offerOf 20 = .ok (.getfield 19, 3) := by decide +kernel
theorem dX5_offerOf_23 : decode cX5_offerOf 23 = .ok (.iload_n 1, 1) := by decide +kernel
theorem dX5_offerOf_24 : decode cX5_offerOf 24 = .ok (.iaload, 1) := by decide +kernel
theorem dX5_offerOf_25 : decode cX5_offerOf 25 = .ok (.aload_n 0, 1) := by decide +kernel
theorem dX5_offerOf_26 : decode cX5_offerOf 26 = .ok (.getfield 7, 3) := by decide +kernel
theorem dX5_offerOf_29 : decode cX5_offerOf 29 = .ok (.iload_n 2, 1) := by decide +kernel
theorem dX5_offerOf_30 : decode cX5_offerOf 30 = .ok (.iaload, 1) := by decide +kernel
theorem dX5_offerOf_31 : decode cX5_offerOf 31 = .ok (.if_icmp .ne 27, 3) := by decide +kernel
theorem dX5_offerOf_34 : decode cX5_offerOf 34 = .ok (.aload_n 0, 1) := by decide +kernel
theorem dX5_offerOf_35 : decode cX5_offerOf 35 = .ok (.getfield 28, 3) := by decide +kernel
theorem dX5_offerOf_38 : decode cX5_offerOf 38 = .ok (.bipush 10, 2) := by decide +kernel
theorem dX5_offerOf_40 : decode cX5_offerOf 40 = .ok (.iload_n 1, 1) := by decide +kernel
theorem dX5_offerOf_41 : decode cX5_offerOf 41 = .ok (.imul, 1) := by decide +kernel
theorem dX5_offerOf_42 : decode cX5_offerOf 42 = .ok (.iload_n 2, 1) := by decide +kernel
theorem dX5_offerOf_43 : decode cX5_offerOf 43 = .ok (.iadd, 1) := by decide +kernel
theorem dX5_offerOf_44 : decode cX5_offerOf 44 = .ok (.baload, 1) := by decide +kernel
theorem dX5_offerOf_45 : decode cX5_offerOf 45 = .ok (.ifCond .ne 13, 3) := by decide +kernel
theorem dX5_offerOf_48 : decode cX5_offerOf 48 = .ok (.iload_n 3, 1) := by decide +kernel
theorem dX5_offerOf_49 : decode cX5_offerOf 49 = .ok (.aload_n 0, 1) := by decide +kernel
theorem dX5_offerOf_50 : decode cX5_offerOf 50 = .ok (.getfield 16, 3) := by decide +kernel
theorem dX5_offerOf_53 : decode cX5_offerOf 53 = .ok (.iload_n 2, 1) := by decide +kernel
theorem dX5_offerOf_54 : decode cX5_offerOf 54 = .ok (.iaload, 1) := by decide +kernel
theorem dX5_offerOf_55 : decode cX5_offerOf 55 = .ok (.if_icmp .ge 8, 3) := by decide +kernel
theorem dX5_offerOf_58 : decode cX5_offerOf 58 = .ok (.bipush (-9), 2) := by decide +kernel
theorem dX5_offerOf_60 : decode cX5_offerOf 60 = .ok (.goto 13, 3) := by decide +kernel
theorem dX5_offerOf_63 : decode cX5_offerOf 63 = .ok (.iload_n 3, 1) := by decide +kernel
theorem dX5_offerOf_64 : decode cX5_offerOf 64 = .ok (.aload_n 0, 1) := by decide +kernel
theorem dX5_offerOf_65 : decode cX5_offerOf 65 = .ok (.getfield 16, 3) := by decide +kernel
theorem dX5_offerOf_68 : decode cX5_offerOf 68 = .ok (.iload_n 2, 1) := by decide +kernel
theorem dX5_offerOf_69 : decode cX5_offerOf 69 = .ok (.iaload, 1) := by decide +kernel
theorem dX5_offerOf_70 : decode cX5_offerOf 70 = .ok (.iadd, 1) := by decide +kernel
theorem dX5_offerOf_71 : decode cX5_offerOf 71 = .ok (.iconst 2, 1) := by decide +kernel
theorem dX5_offerOf_72 : decode cX5_offerOf 72 = .ok (.idiv, 1) := by decide +kernel
theorem dX5_offerOf_73 : decode cX5_offerOf 73 = .ok (.ireturn, 1) := by decide +kernel
set_option maxRecDepth 20000 in
theorem ggX5_nextOf_X5_offerOf : GoodIn wsX5_nextOf wsX5_offerOf := goodIn_r _ [6, 7, 8, 9, 10, 11, 12, 13, 14, 5, 15, 16, 17, 18, 19, 20, 21, 22, 23, 24, 25, 26, 27, 28, 29, 30, 31, 32, 33, 34, 35, 36, 37, 38, 39, 40, 41, 42, 43, 44] rfl (by decide +kernel)
set_option maxRecDepth 20000 in
theorem gX5_nextOf_X5_offerOf : GoodIn wsX5_nextOf (wsV RX5 95 RX5 yX5_offerOf wsX5_offerOf) := goodIn_app (goodIn_r _ [2, 3, 4, 5] rfl (by decide +kernel)) ggX5_nextOf_X5_offerOf
set_option maxRecDepth 20000 in
theorem ggX5_nextOf_X5_held : GoodIn wsX5_nextOf wsX5_held := goodIn_r _ [15, 16, 17, 18, 19, 20, 21, 22, 23, 24, 25, 26, 27, 28, 29, 30, 31, 32, 33, 34, 35, 36, 37, 38, 39, 40, 41, 42, 43, 44] rfl (by decide +kernel)
set_option maxRecDepth 20000 in
theorem gX5_nextOf_X5_held : GoodIn wsX5_nextOf (wsV RX5 91 RX5 yX5_held wsX5_held) := goodIn_app (goodIn_r _ [12, 13, 14, 5] rfl (by decide +kernel)) ggX5_nextOf_X5_held
theorem dX5_nextOf_0 : decode cX5_nextOf 0 = .ok (.bipush (-9), 2) := by decide +kernel
theorem dX5_nextOf_2 : decode cX5_nextOf 2 = .ok (.istore_n 3, 1) := by decide +kernel
theorem dX5_nextOf_3 : decode cX5_nextOf 3 = .ok (.iconst 0, 1) := by decide +kernel
theorem dX5_nextOf_4 : decode cX5_nextOf 4 = .ok (.istore 4, 2) := by decide +kernel
theorem dX5_nextOf_6 : decode cX5_nextOf 6 = .ok (.iconst 0, 1) := by decide +kernel
theorem dX5_nextOf_7 : decode cX5_nextOf 7 = .ok (.istore 5, 2) := by decide +kernel
theorem dX5_nextOf_9 : decode cX5_nextOf 9 = .ok (.iload 5, 2) := by decide +kernel
theorem dX5_nextOf_11 : decode cX5_nextOf 11 = .ok (.aload_n 0, 1) := by decide +kernel
theorem dX5_nextOf_12 : decode cX5_nextOf 12 = .ok (.getfield 81, 3) := by decide +kernel
theorem dX5_nextOf_15 : decode cX5_nextOf 15 = .ok (.if_icmp .ge 72, 3) := by decide +kernel
theorem dX5_nextOf_18 : decode cX5_nextOf 18 = .ok (.aload_n 0, 1) := by decide +kernel
theorem dX5_nextOf_19 : decode cX5_nextOf 19 = .ok (.iload_n 1, 1) := by decide +kernel
theorem dX5_nextOf_20 : decode cX5_nextOf 20 = .ok (.iload 5, 2) := by decide +kernel
theorem dX5_nextOf_22 : decode cX5_nextOf 22 = .ok (.invokevirtual 95, 3) := by decide +kernel
theorem dX5_nextOf_25 : decode cX5_nextOf 25 = .ok (.istore 6, 2) := by decide +kernel
theorem dX5_nextOf_27 : decode cX5_nextOf 27 = .ok (.bipush 10, 2) := by decide +kernel
theorem dX5_nextOf_29 : decode cX5_nextOf 29 = .ok (.aload_n 0, 1) := by decide +kernel
theorem dX5_nextOf_30 : decode cX5_nextOf 30 = .ok (.iload_n 1, 1) := by decide +kernel
theorem dX5_nextOf_31 : decode cX5_nextOf 31 = .ok (.iload 5, 2) := by decide +kernel
theorem dX5_nextOf_33 : decode cX5_nextOf 33 = .ok (.invokevirtual 91, 3) := by decide +kernel
theorem dX5_nextOf_36 : decode cX5_nextOf 36 = .ok (.imul, 1) := by decide +kernel
theorem dX5_nextOf_37 : decode cX5_nextOf 37 = .ok (.iload 6, 2) := by decide +kernel
theorem dX5_nextOf_39 : decode cX5_nextOf 39 = .ok (.isub, 1) := by decide +kernel
theorem dX5_nextOf_40 : decode cX5_nextOf 40 = .ok (.istore 7, 2) := by decide +kernel
theorem dX5_nextOf_42 : decode cX5_nextOf 42 = .ok (.iload 6, 2) := by decide +kernel
theorem dX5_nextOf_44 : decode cX5_nextOf 44 = .ok (.bipush (-9), 2) := by decide +kernel
theorem dX5_nextOf_46 : decode cX5_nextOf 46 = .ok (.if_icmp .eq 35, 3) := by decide +kernel
theorem dX5_nextOf_49 : decode cX5_nextOf 49 = .ok (.aload_n 2, 1) := by decide +kernel
theorem dX5_nextOf_50 : decode cX5_nextOf 50 = .ok (.bipush 10, 2) := by decide +kernel
theorem dX5_nextOf_52 : decode cX5_nextOf 52 = .ok (.iload_n 1, 1) := by decide +kernel
theorem dX5_nextOf_53 : decode cX5_nextOf 53 = .ok (.imul, 1) := by decide +kernel
theorem dX5_nextOf_54 : decode cX5_nextOf 54 = .ok (.iload 5, 2) := by decide +kernel
theorem dX5_nextOf_56 : decode cX5_nextOf 56 = .ok (.iadd, 1) := by decide +kernel
theorem dX5_nextOf_57 : decode cX5_nextOf 57 = .ok (.baload, 1) := by decide +kernel
theorem dX5_nextOf_58 : decode cX5_nextOf 58 = .ok (.ifCond .ne 23, 3) := by decide +kernel
theorem dX5_nextOf_61 : decode cX5_nextOf 61 = .ok (.iload_n 3, 1) := by decide +kernel
theorem dX5_nextOf_62 : decode cX5_nextOf 62 = .ok (.bipush (-9), 2) := by decide +kernel
theorem dX5_nextOf_64 : decode cX5_nextOf 64 = .ok (.if_icmp .eq 10, 3) := by decide +kernel
theorem dX5_nextOf_67 : decode cX5_nextOf 67 = .ok (.iload 7, 2) := by decide +kernel
theorem dX5_nextOf_69 : decode cX5_nextOf 69 = .ok (.iload 4, 2) := by decide +kernel
theorem dX5_nextOf_71 : decode cX5_nextOf 71 = .ok (.if_icmp .le 10, 3) := by decide +kernel
theorem dX5_nextOf_74 : decode cX5_nextOf 74 = .ok (.iload 5, 2) := by decide +kernel
theorem dX5_nextOf_76 : decode cX5_nextOf 76 = .ok (.istore_n 3, 1) := by decide +kernel
theorem dX5_nextOf_77 : decode cX5_nextOf 77 = .ok (.iload 7, 2) := by decide +kernel
theorem dX5_nextOf_79 : decode cX5_nextOf 79 = .ok (.istore 4, 2) := by decide +kernel
theorem dX5_nextOf_81 : decode cX5_nextOf 81 = .ok (.iinc 5 1, 3) := by decide +kernel
theorem dX5_nextOf_84 : decode cX5_nextOf 84 = .ok (.goto (-75), 3) := by decide +kernel
theorem dX5_nextOf_87 : decode cX5_nextOf 87 = .ok (.iload_n 3, 1) := by decide +kernel
theorem dX5_nextOf_88 : decode cX5_nextOf 88 = .ok (.ireturn, 1) := by decide +kernel
set_option maxRecDepth 20000 in
theorem ggX5_isTorn_X5_offerOf : GoodIn wsX5_isTorn wsX5_offerOf := goodIn_r _ [5, 6, 7, 8, 9, 10, 11, 12, 13, 4, 14, 15, 16, 17, 18, 19, 20, 21, 22, 23, 24, 25, 26, 27, 28, 29, 30, 31, 32, 33, 34, 35, 36, 37, 38, 39, 40, 41, 42, 43] rfl (by decide +kernel)
set_option maxRecDepth 20000 in
theorem gX5_isTorn_X5_offerOf : GoodIn wsX5_isTorn (wsV RX5 95 RX5 yX5_offerOf wsX5_offerOf) := goodIn_app (goodIn_r _ [1, 2, 3, 4] rfl (by decide +kernel)) ggX5_isTorn_X5_offerOf
set_option maxRecDepth 20000 in
theorem ggX5_isTorn_X5_held : GoodIn wsX5_isTorn wsX5_held := goodIn_r _ [14, 15, 16, 17, 18, 19, 20, 21, 22, 23, 24, 25, 26, 27, 28, 29, 30, 31, 32, 33, 34, 35, 36, 37, 38, 39, 40, 41, 42, 43] rfl (by decide +kernel)
set_option maxRecDepth 20000 in
theorem gX5_isTorn_X5_held : GoodIn wsX5_isTorn (wsV RX5 91 RX5 yX5_held wsX5_held) := goodIn_app (goodIn_r _ [11, 12, 13, 4] rfl (by decide +kernel)) ggX5_isTorn_X5_held
theorem dX5_isTorn_0 : decode cX5_isTorn 0 = .ok (.aload_n 0, 1) := by decide +kernel
theorem dX5_isTorn_1 : decode cX5_isTorn 1 = .ok (.iload_n 2, 1) := by decide +kernel
theorem dX5_isTorn_2 : decode cX5_isTorn 2 = .ok (.iload_n 1, 1) := by decide +kernel
theorem dX5_isTorn_3 : decode cX5_isTorn 3 = .ok (.invokevirtual 95, 3) := by decide +kernel
theorem dX5_isTorn_6 : decode cX5_isTorn 6 = .ok (.istore 6, 2) := by decide +kernel
theorem dX5_isTorn_8 : decode cX5_isTorn 8 = .ok (.iload 6, 2) := by decide +kernel
theorem dX5_isTorn_10 : decode cX5_isTorn 10 = .ok (.bipush (-9), 2) := by decide +kernel
theorem dX5_isTorn_12 : decode cX5_isTorn 12 = .ok (.if_icmp .eq 10, 3) := by decide +kernel
theorem dX5_isTorn_15 : decode cX5_isTorn 15 = .ok (.aload_n 3, 1) := by decide +kernel
theorem dX5_isTorn_16 : decode cX5_isTorn 16 = .ok (.iload_n 1, 1) := by decide +kernel
theorem dX5_isTorn_17 : decode cX5_isTorn 17 = .ok (.iaload, 1) := by decide +kernel
theorem dX5_isTorn_18 : decode cX5_isTorn 18 = .ok (.iload_n 2, 1) := by decide +kernel
theorem dX5_isTorn_19 : decode cX5_isTorn 19 = .ok (.if_icmp .ne 5, 3) := by decide +kernel
theorem dX5_isTorn_22 : decode cX5_isTorn 22 = .ok (.iconst 0, 1) := by decide +kernel
theorem dX5_isTorn_23 : decode cX5_isTorn 23 = .ok (.ireturn, 1) := by decide +kernel
theorem dX5_isTorn_24 : decode cX5_isTorn 24 = .ok (.aload_n 3, 1) := by decide +kernel
theorem dX5_isTorn_25 : decode cX5_isTorn 25 = .ok (.iload_n 1, 1) := by decide +kernel
theorem dX5_isTorn_26 : decode cX5_isTorn 26 = .ok (.iaload, 1) := by decide +kernel
theorem dX5_isTorn_27 : decode cX5_isTorn 27 = .ok (.bipush (-9), 2) := by decide +kernel
theorem dX5_isTorn_29 : decode cX5_isTorn 29 = .ok (.if_icmp .eq 12, 3) := by decide +kernel
theorem dX5_isTorn_32 : decode cX5_isTorn 32 = .ok (.aload 4, 2) := by decide +kernel
theorem dX5_isTorn_34 : decode cX5_isTorn 34 = .ok (.iload_n 1, 1) := by decide +kernel
theorem dX5_isTorn_35 : decode cX5_isTorn 35 = .ok (.iaload, 1) := by decide +kernel
theorem dX5_isTorn_36 : decode cX5_isTorn 36 = .ok (.iload 6, 2) := by decide +kernel
theorem dX5_isTorn_38 : decode cX5_isTorn 38 = .ok (.if_icmp .ge 7, 3) := by decide +kernel
theorem dX5_isTorn_41 : decode cX5_isTorn 41 = .ok (.iconst 1, 1) := by decide +kernel
theorem dX5_isTorn_42 : decode cX5_isTorn 42 = .ok (.goto 4, 3) := by decide +kernel
theorem dX5_isTorn_45 : decode cX5_isTorn 45 = .ok (.iconst 0, 1) := by decide +kernel
theorem dX5_isTorn_46 : decode cX5_isTorn 46 = .ok (.istore 7, 2) := by decide +kernel
theorem dX5_isTorn_48 : decode cX5_isTorn 48 = .ok (.aload 5, 2) := by decide +kernel
theorem dX5_isTorn_50 : decode cX5_isTorn 50 = .ok (.iload_n 2, 1) := by decide +kernel
theorem dX5_isTorn_51 : decode cX5_isTorn 51 = .ok (.iaload, 1) := by decide +kernel
theorem dX5_isTorn_52 : decode cX5_isTorn 52 = .ok (.bipush (-9), 2) := by decide +kernel
theorem dX5_isTorn_54 : decode cX5_isTorn 54 = .ok (.if_icmp .eq 38, 3) := by decide +kernel
theorem dX5_isTorn_57 : decode cX5_isTorn 57 = .ok (.bipush 10, 2) := by decide +kernel
theorem dX5_isTorn_59 : decode cX5_isTorn 59 = .ok (.aload_n 0, 1) := by decide +kernel
theorem dX5_isTorn_60 : decode cX5_isTorn 60 = .ok (.iload_n 2, 1) := by decide +kernel
theorem dX5_isTorn_61 : decode cX5_isTorn 61 = .ok (.aload 5, 2) := by decide +kernel
theorem dX5_isTorn_63 : decode cX5_isTorn 63 = .ok (.iload_n 2, 1) := by decide +kernel
theorem dX5_isTorn_64 : decode cX5_isTorn 64 = .ok (.iaload, 1) := by decide +kernel
theorem dX5_isTorn_65 : decode cX5_isTorn 65 = .ok (.invokevirtual 91, 3) := by decide +kernel
theorem dX5_isTorn_68 : decode cX5_isTorn 68 = .ok (.imul, 1) := by decide +kernel
theorem dX5_isTorn_69 : decode cX5_isTorn 69 = .ok (.aload 4, 2) := by decide +kernel
theorem dX5_isTorn_71 : decode cX5_isTorn 71 = .ok (.aload 5, 2) := by decide +kernel
theorem dX5_isTorn_73 : decode cX5_isTorn 73 = .ok (.iload_n 2, 1) := by decide +kernel
theorem dX5_isTorn_74 : decode cX5_isTorn 74 = .ok (.iaload, 1) := by decide +kernel
theorem dX5_isTorn_75 : decode cX5_isTorn 75 = .ok (.iaload, 1) := by decide +kernel
theorem dX5_isTorn_76 : decode cX5_isTorn 76 = .ok (.isub, 1) := by decide +kernel
theorem dX5_isTorn_77 : decode cX5_isTorn 77 = .ok (.bipush 10, 2) := by decide +kernel
theorem dX5_isTorn_79 : decode cX5_isTorn 79 = .ok (.aload_n 0, 1) := by decide +kernel
theorem dX5_isTorn_80 : decode cX5_isTorn 80 = .ok (.iload_n 2, 1) := by decide +kernel
theorem dX5_isTorn_81 : decode cX5_isTorn 81 = .ok (.iload_n 1, 1) := by decide +kernel
theorem dX5_isTorn_82 : decode cX5_isTorn 82 = .ok (.invokevirtual 91, 3) := by decide +kernel
theorem dX5_isTorn_85 : decode cX5_isTorn 85 = .ok (.imul, 1) := by decide +kernel
theorem dX5_isTorn_86 : decode cX5_isTorn 86 = .ok (.iload 6, 2) := by decide +kernel
theorem dX5_isTorn_88 : decode cX5_isTorn 88 = .ok (.isub, 1) := by decide +kernel
theorem dX5_isTorn_89 : decode cX5_isTorn 89 = .ok (.if_icmp .ge 7, 3) := by decide +kernel
theorem dX5_isTorn_92 : decode cX5_isTorn 92 = .ok (.iconst 1, 1) := by decide +kernel
theorem dX5_isTorn_93 : decode cX5_isTorn 93 = .ok (.goto 4, 3) := by decide +kernel
theorem dX5_isTorn_96 : decode cX5_isTorn 96 = .ok (.iconst 0, 1) := by decide +kernel
theorem dX5_isTorn_97 : decode cX5_isTorn 97 = .ok (.istore 8, 2) := by decide +kernel
theorem dX5_isTorn_99 : decode cX5_isTorn 99 = .ok (.iload 7, 2) := by decide +kernel
theorem dX5_isTorn_101 : decode cX5_isTorn 101 = .ok (.ifCond .eq 12, 3) := by decide +kernel
theorem dX5_isTorn_104 : decode cX5_isTorn 104 = .ok (.iload 8, 2) := by decide +kernel
theorem dX5_isTorn_106 : decode cX5_isTorn 106 = .ok (.ifCond .eq 7, 3) := by decide +kernel
theorem dX5_isTorn_109 : decode cX5_isTorn 109 = .ok (.iconst 1, 1) := by decide +kernel
theorem dX5_isTorn_110 : decode cX5_isTorn 110 = .ok (.goto 4, 3) := by decide +kernel
theorem dX5_isTorn_113 : decode cX5_isTorn 113 = .ok (.iconst 0, 1) := by decide +kernel
theorem dX5_isTorn_114 : decode cX5_isTorn 114 = .ok (.ireturn, 1) := by decide +kernel
set_option maxRecDepth 20000 in
theorem ggX5_servant_X5_in : GoodIn wsX5_servant wsX5_in := goodIn_r _ [13] rfl (by decide +kernel)
set_option maxRecDepth 20000 in
theorem gX5_servant_X5_in : GoodIn wsX5_servant (va_wsS RX5 84 yX5_in wsX5_in) := goodIn_app (goodIn_r _ [10, 11, 12] rfl (by decide +kernel)) ggX5_servant_X5_in
theorem dX5_servant_0 : decode cX5_servant 0 = .ok (.aload_n 0, 1) := by decide +kernel
theorem dX5_servant_1 : decode cX5_servant 1 = .ok (.iconst 0, 1) := by decide +kernel
theorem dX5_servant_2 : decode cX5_servant 2 = .ok (.putfield 78, 3) := by decide +kernel
theorem dX5_servant_5 : decode cX5_servant 5 = .ok (.iload_n 1, 1) := by decide +kernel
theorem dX5_servant_6 : decode cX5_servant 6 = .ok (.i2l, 1) := by decide +kernel
theorem dX5_servant_7 : decode cX5_servant 7 = .ok (.lconst 0, 1) := by decide +kernel
theorem dX5_servant_8 : decode cX5_servant 8 = .ok (.ldc2_w 98, 3) := by decide +kernel
theorem dX5_servant_11 : decode cX5_servant 11 = .ok (.invokestatic 84, 3) := by decide +kernel
theorem dX5_servant_14 : decode cX5_servant 14 = .ok (.ifCond .eq 27, 3) := by decide +kernel
theorem dX5_servant_17 : decode cX5_servant 17 = .ok (.iload_n 2, 1) := by decide +kernel
theorem dX5_servant_18 : decode cX5_servant 18 = .ok (.i2l, 1) := by decide +kernel
theorem dX5_servant_19 : decode cX5_servant 19 = .ok (.lconst 1, 1) := by decide +kernel
theorem dX5_servant_20 : decode cX5_servant 20 = .ok (.ldc2_w 100, 3) := by decide +kernel
theorem dX5_servant_23 : decode cX5_servant 23 = .ok (.invokestatic 84, 3) := by decide +kernel
theorem dX5_servant_26 : decode cX5_servant 26 = .ok (.ifCond .eq 15, 3) := by decide +kernel
theorem dX5_servant_29 : decode cX5_servant 29 = .ok (.iload_n 3, 1) := by decide +kernel
theorem dX5_servant_30 : decode cX5_servant 30 = .ok (.i2l, 1) := by decide +kernel
theorem dX5_servant_31 : decode cX5_servant 31 = .ok (.lconst 1, 1) := by decide +kernel
theorem dX5_servant_32 : decode cX5_servant 32 = .ok (.ldc2_w 102, 3) := by decide +kernel
theorem dX5_servant_35 : decode cX5_servant 35 = .ok (.invokestatic 84, 3) := by decide +kernel
theorem dX5_servant_38 : decode cX5_servant 38 = .ok (.ifCond .ne 6, 3) := by decide +kernel
theorem dX5_servant_41 : decode cX5_servant 41 = .ok (.bipush (-2), 2) := by decide +kernel
theorem dX5_servant_43 : decode cX5_servant 43 = .ok (.ireturn, 1) := by decide +kernel
theorem dX5_servant_44 : decode cX5_servant 44 = .ok (.aload_n 0, 1) := by decide +kernel
theorem dX5_servant_45 : decode cX5_servant 45 = .ok (.getfield 50, 3) := by decide +kernel
theorem dX5_servant_48 : decode cX5_servant 48 = .ok (.bipush (-9), 2) := by decide +kernel
theorem dX5_servant_50 : decode cX5_servant 50 = .ok (.if_icmp .eq 6, 3) := by decide +kernel
theorem dX5_servant_53 : decode cX5_servant 53 = .ok (.bipush (-3), 2) := by decide +kernel
theorem dX5_servant_55 : decode cX5_servant 55 = .ok (.ireturn, 1) := by decide +kernel
theorem dX5_servant_56 : decode cX5_servant 56 = .ok (.aload_n 0, 1) := by decide +kernel
theorem dX5_servant_57 : decode cX5_servant 57 = .ok (.getfield 81, 3) := by decide +kernel
theorem dX5_servant_60 : decode cX5_servant 60 = .ok (.bipush 10, 2) := by decide +kernel
theorem dX5_servant_62 : decode cX5_servant 62 = .ok (.if_icmp .ne 6, 3) := by decide +kernel
theorem dX5_servant_65 : decode cX5_servant 65 = .ok (.bipush (-4), 2) := by decide +kernel
theorem dX5_servant_67 : decode cX5_servant 67 = .ok (.ireturn, 1) := by decide +kernel
theorem dX5_servant_68 : decode cX5_servant 68 = .ok (.aload_n 0, 1) := by decide +kernel
theorem dX5_servant_69 : decode cX5_servant 69 = .ok (.getfield 7, 3) := by decide +kernel
theorem dX5_servant_72 : decode cX5_servant 72 = .ok (.aload_n 0, 1) := by decide +kernel
theorem dX5_servant_73 : decode cX5_servant 73 = .ok (.getfield 81, 3) := by decide +kernel
theorem dX5_servant_76 : decode cX5_servant 76 = .ok (.iload_n 1, 1) := by decide +kernel
theorem dX5_servant_77 : decode cX5_servant 77 = .ok (.iastore, 1) := by decide +kernel
theorem dX5_servant_78 : decode cX5_servant 78 = .ok (.aload_n 0, 1) := by decide +kernel
theorem dX5_servant_79 : decode cX5_servant 79 = .ok (.getfield 13, 3) := by decide +kernel
theorem dX5_servant_82 : decode cX5_servant 82 = .ok (.aload_n 0, 1) := by decide +kernel
theorem dX5_servant_83 : decode cX5_servant 83 = .ok (.getfield 81, 3) := by decide +kernel
theorem dX5_servant_86 : decode cX5_servant 86 = .ok (.iload_n 2, 1) := by decide +kernel
theorem dX5_servant_87 : decode cX5_servant 87 = .ok (.iastore, 1) := by decide +kernel
theorem dX5_servant_88 : decode cX5_servant 88 = .ok (.aload_n 0, 1) := by decide +kernel
theorem dX5_servant_89 : decode cX5_servant 89 = .ok (.getfield 16, 3) := by decide +kernel
theorem dX5_servant_92 : decode cX5_servant 92 = .ok (.aload_n 0, 1) := by decide +kernel
theorem dX5_servant_93 : decode cX5_servant 93 = .ok (.getfield 81, 3) := by decide +kernel
theorem dX5_servant_96 : decode cX5_servant 96 = .ok (.iload_n 3, 1) := by decide +kernel
theorem dX5_servant_97 : decode cX5_servant 97 = .ok (.iastore, 1) := by decide +kernel
theorem dX5_servant_98 : decode cX5_servant 98 = .ok (.aload_n 0, 1) := by decide +kernel
theorem dX5_servant_99 : decode cX5_servant 99 = .ok (.dup, 1) := by decide +kernel
theorem dX5_servant_100 : decode cX5_servant 100 = .ok (.getfield 81, 3) := by decide +kernel
theorem dX5_servant_103 : decode cX5_servant 103 = .ok (.iconst 1, 1) := by decide +kernel
theorem dX5_servant_104 : decode cX5_servant 104 = .ok (.iadd, 1) := by decide +kernel
theorem dX5_servant_105 : decode cX5_servant 105 = .ok (.putfield 81, 3) := by decide +kernel
theorem dX5_servant_108 : decode cX5_servant 108 = .ok (.aload_n 0, 1) := by decide +kernel
theorem dX5_servant_109 : decode cX5_servant 109 = .ok (.getfield 81, 3) := by decide +kernel
theorem dX5_servant_112 : decode cX5_servant 112 = .ok (.iconst 1, 1) := by decide +kernel
theorem dX5_servant_113 : decode cX5_servant 113 = .ok (.isub, 1) := by decide +kernel
theorem dX5_servant_114 : decode cX5_servant 114 = .ok (.ireturn, 1) := by decide +kernel
set_option maxRecDepth 20000 in
theorem ggX5_master_X5_in : GoodIn wsX5_master wsX5_in := goodIn_r _ [11] rfl (by decide +kernel)
set_option maxRecDepth 20000 in
theorem gX5_master_X5_in : GoodIn wsX5_master (va_wsS RX5 84 yX5_in wsX5_in) := goodIn_app (goodIn_r _ [8, 9, 10] rfl (by decide +kernel)) ggX5_master_X5_in
theorem dX5_master_0 : decode cX5_master 0 = .ok (.aload_n 0, 1) := by decide +kernel
theorem dX5_master_1 : decode cX5_master 1 = .ok (.iconst 0, 1) := by decide +kernel
theorem dX5_master_2 : decode cX5_master 2 = .ok (.putfield 78, 3) := by decide +kernel
theorem dX5_master_5 : decode cX5_master 5 = .ok (.iload_n 1, 1) := by decide +kernel
theorem dX5_master_6 : decode cX5_master 6 = .ok (.i2l, 1) := by decide +kernel
theorem dX5_master_7 : decode cX5_master 7 = .ok (.lconst 0, 1) := by decide +kernel
theorem dX5_master_8 : decode cX5_master 8 = .ok (.ldc2_w 98, 3) := by decide +kernel
theorem dX5_master_11 : decode cX5_master 11 = .ok (.invokestatic 84, 3) := by decide +kernel
theorem dX5_master_14 : decode cX5_master 14 = .ok (.ifCond .eq 15, 3) := by decide +kernel
theorem dX5_master_17 : decode cX5_master 17 = .ok (.iload_n 2, 1) := by decide +kernel
theorem dX5_master_18 : decode cX5_master 18 = .ok (.i2l, 1) := by decide +kernel
theorem dX5_master_19 : decode cX5_master 19 = .ok (.lconst 1, 1) := by decide +kernel
theorem dX5_master_20 : decode cX5_master 20 = .ok (.ldc2_w 104, 3) := by decide +kernel
theorem dX5_master_23 : decode cX5_master 23 = .ok (.invokestatic 84, 3) := by decide +kernel
theorem dX5_master_26 : decode cX5_master 26 = .ok (.ifCond .ne 6, 3) := by decide +kernel
theorem dX5_master_29 : decode cX5_master 29 = .ok (.bipush (-2), 2) := by decide +kernel
theorem dX5_master_31 : decode cX5_master 31 = .ok (.ireturn, 1) := by decide +kernel
theorem dX5_master_32 : decode cX5_master 32 = .ok (.aload_n 0, 1) := by decide +kernel
theorem dX5_master_33 : decode cX5_master 33 = .ok (.getfield 50, 3) := by decide +kernel
theorem dX5_master_36 : decode cX5_master 36 = .ok (.bipush (-9), 2) := by decide +kernel
theorem dX5_master_38 : decode cX5_master 38 = .ok (.if_icmp .eq 6, 3) := by decide +kernel
theorem dX5_master_41 : decode cX5_master 41 = .ok (.bipush (-3), 2) := by decide +kernel
theorem dX5_master_43 : decode cX5_master 43 = .ok (.ireturn, 1) := by decide +kernel
theorem dX5_master_44 : decode cX5_master 44 = .ok (.aload_n 0, 1) := by decide +kernel
theorem dX5_master_45 : decode cX5_master 45 = .ok (.getfield 88, 3) := by decide +kernel
theorem dX5_master_48 : decode cX5_master 48 = .ok (.bipush 10, 2) := by decide +kernel
theorem dX5_master_50 : decode cX5_master 50 = .ok (.if_icmp .ne 6, 3) := by decide +kernel
theorem dX5_master_53 : decode cX5_master 53 = .ok (.bipush (-4), 2) := by decide +kernel
theorem dX5_master_55 : decode cX5_master 55 = .ok (.ireturn, 1) := by decide +kernel
theorem dX5_master_56 : decode cX5_master 56 = .ok (.aload_n 0, 1) := by decide +kernel
theorem dX5_master_57 : decode cX5_master 57 = .ok (.getfield 19, 3) := by decide +kernel
theorem dX5_master_60 : decode cX5_master 60 = .ok (.aload_n 0, 1) := by decide +kernel
theorem dX5_master_61 : decode cX5_master 61 = .ok (.getfield 88, 3) := by decide +kernel
theorem dX5_master_64 : decode cX5_master 64 = .ok (.iload_n 1, 1) := by decide +kernel
theorem dX5_master_65 : decode cX5_master 65 = .ok (.iastore, 1) := by decide +kernel
theorem dX5_master_66 : decode cX5_master 66 = .ok (.aload_n 0, 1) := by decide +kernel
theorem dX5_master_67 : decode cX5_master 67 = .ok (.getfield 22, 3) := by decide +kernel
theorem dX5_master_70 : decode cX5_master 70 = .ok (.aload_n 0, 1) := by decide +kernel
theorem dX5_master_71 : decode cX5_master 71 = .ok (.getfield 88, 3) := by decide +kernel
theorem dX5_master_74 : decode cX5_master 74 = .ok (.iload_n 2, 1) := by decide +kernel
theorem dX5_master_75 : decode cX5_master 75 = .ok (.iastore, 1) := by decide +kernel
theorem dX5_master_76 : decode cX5_master 76 = .ok (.aload_n 0, 1) := by decide +kernel
theorem dX5_master_77 : decode cX5_master 77 = .ok (.dup, 1) := by decide +kernel
theorem dX5_master_78 : decode cX5_master 78 = .ok (.getfield 88, 3) := by decide +kernel
theorem dX5_master_81 : decode cX5_master 81 = .ok (.iconst 1, 1) := by decide +kernel
theorem dX5_master_82 : decode cX5_master 82 = .ok (.iadd, 1) := by decide +kernel
theorem dX5_master_83 : decode cX5_master 83 = .ok (.putfield 88, 3) := by decide +kernel
theorem dX5_master_86 : decode cX5_master 86 = .ok (.aload_n 0, 1) := by decide +kernel
theorem dX5_master_87 : decode cX5_master 87 = .ok (.getfield 88, 3) := by decide +kernel
theorem dX5_master_90 : decode cX5_master 90 = .ok (.iconst 1, 1) := by decide +kernel
theorem dX5_master_91 : decode cX5_master 91 = .ok (.isub, 1) := by decide +kernel
theorem dX5_master_92 : decode cX5_master 92 = .ok (.ireturn, 1) := by decide +kernel
set_option maxRecDepth 20000 in
theorem ggX5_bar_X5_noServant : GoodIn wsX5_bar wsX5_noServant := goodIn_r _ [7, 8, 9, 10, 6, 11, 17, 18, 19, 20, 21, 22, 23, 24, 25, 26, 27, 28, 29, 30, 31, 32, 33, 34, 35, 36, 37, 38, 39, 40, 41, 42, 43, 44] rfl (by decide +kernel)
set_option maxRecDepth 20000 in
theorem gX5_bar_X5_noServant : GoodIn wsX5_bar (wsV RX5 106 RX5 yX5_noServant wsX5_noServant) := goodIn_app (goodIn_r _ [3, 4, 5, 6] rfl (by decide +kernel)) ggX5_bar_X5_noServant
set_option maxRecDepth 20000 in
theorem ggX5_bar_X5_noMaster : GoodIn wsX5_bar wsX5_noMaster := goodIn_r _ [15, 16, 9, 10, 6, 11, 17, 18, 19, 20, 21, 22, 23, 24, 25, 26, 27, 28, 29, 30, 31, 32, 33, 34, 35, 36, 37, 38, 39, 40, 41, 42, 43, 44] rfl (by decide +kernel)
set_option maxRecDepth 20000 in
theorem gX5_bar_X5_noMaster : GoodIn wsX5_bar (wsV RX5 110 RX5 yX5_noMaster wsX5_noMaster) := goodIn_app (goodIn_r _ [12, 13, 14, 6] rfl (by decide +kernel)) ggX5_bar_X5_noMaster
theorem dX5_bar_0 : decode cX5_bar 0 = .ok (.aload_n 0, 1) := by decide +kernel
theorem dX5_bar_1 : decode cX5_bar 1 = .ok (.iconst 0, 1) := by decide +kernel
theorem dX5_bar_2 : decode cX5_bar 2 = .ok (.putfield 78, 3) := by decide +kernel
theorem dX5_bar_5 : decode cX5_bar 5 = .ok (.aload_n 0, 1) := by decide +kernel
theorem dX5_bar_6 : decode cX5_bar 6 = .ok (.iload_n 1, 1) := by decide +kernel
theorem dX5_bar_7 : decode cX5_bar 7 = .ok (.invokevirtual 106, 3) := by decide +kernel
theorem dX5_bar_10 : decode cX5_bar 10 = .ok (.ifCond .ne 11, 3) := by decide +kernel
theorem dX5_bar_13 : decode cX5_bar 13 = .ok (.aload_n 0, 1) := by decide +kernel
theorem dX5_bar_14 : decode cX5_bar 14 = .ok (.iload_n 2, 1) := by decide +kernel
theorem dX5_bar_15 : decode cX5_bar 15 = .ok (.invokevirtual 110, 3) := by decide +kernel
theorem dX5_bar_18 : decode cX5_bar 18 = .ok (.ifCond .eq 5, 3) := by decide +kernel
theorem dX5_bar_21 : decode cX5_bar 21 = .ok (.iconst (-1), 1) := by decide +kernel
theorem dX5_bar_22 : decode cX5_bar 22 = .ok (.ireturn, 1) := by decide +kernel
theorem dX5_bar_23 : decode cX5_bar 23 = .ok (.aload_n 0, 1) := by decide +kernel
theorem dX5_bar_24 : decode cX5_bar 24 = .ok (.getfield 28, 3) := by decide +kernel
theorem dX5_bar_27 : decode cX5_bar 27 = .ok (.bipush 10, 2) := by decide +kernel
theorem dX5_bar_29 : decode cX5_bar 29 = .ok (.iload_n 2, 1) := by decide +kernel
theorem dX5_bar_30 : decode cX5_bar 30 = .ok (.imul, 1) := by decide +kernel
theorem dX5_bar_31 : decode cX5_bar 31 = .ok (.iload_n 1, 1) := by decide +kernel
theorem dX5_bar_32 : decode cX5_bar 32 = .ok (.iadd, 1) := by decide +kernel
theorem dX5_bar_33 : decode cX5_bar 33 = .ok (.baload, 1) := by decide +kernel
theorem dX5_bar_34 : decode cX5_bar 34 = .ok (.ifCond .eq 7, 3) := by decide +kernel
theorem dX5_bar_37 : decode cX5_bar 37 = .ok (.iconst 1, 1) := by decide +kernel
theorem dX5_bar_38 : decode cX5_bar 38 = .ok (.goto 4, 3) := by decide +kernel
theorem dX5_bar_41 : decode cX5_bar 41 = .ok (.iconst 0, 1) := by decide +kernel
theorem dX5_bar_42 : decode cX5_bar 42 = .ok (.istore 4, 2) := by decide +kernel
theorem dX5_bar_44 : decode cX5_bar 44 = .ok (.aload_n 0, 1) := by decide +kernel
theorem dX5_bar_45 : decode cX5_bar 45 = .ok (.getfield 28, 3) := by decide +kernel
theorem dX5_bar_48 : decode cX5_bar 48 = .ok (.bipush 10, 2) := by decide +kernel
theorem dX5_bar_50 : decode cX5_bar 50 = .ok (.iload_n 2, 1) := by decide +kernel
theorem dX5_bar_51 : decode cX5_bar 51 = .ok (.imul, 1) := by decide +kernel
theorem dX5_bar_52 : decode cX5_bar 52 = .ok (.iload_n 1, 1) := by decide +kernel
theorem dX5_bar_53 : decode cX5_bar 53 = .ok (.iadd, 1) := by decide +kernel
theorem dX5_bar_54 : decode cX5_bar 54 = .ok (.iload_n 3, 1) := by decide +kernel
theorem dX5_bar_55 : decode cX5_bar 55 = .ok (.bastore, 1) := by decide +kernel
theorem dX5_bar_56 : decode cX5_bar 56 = .ok (.iload 4, 2) := by decide +kernel
theorem dX5_bar_58 : decode cX5_bar 58 = .ok (.ireturn, 1) := by decide +kernel
set_option maxRecDepth 20000 in
theorem ggX5_hear_X5_noMaster : GoodIn wsX5_hear wsX5_noMaster := goodIn_r _ [8, 9, 10, 11, 7, 12, 22, 23, 24, 25, 26, 27, 28, 29, 30, 31, 32, 33, 34, 35, 36, 37, 38, 39, 40, 41, 42, 43, 44, 45, 46, 47, 48, 49] rfl (by decide +kernel)
set_option maxRecDepth 20000 in
theorem gX5_hear_X5_noMaster : GoodIn wsX5_hear (wsV RX5 110 RX5 yX5_noMaster wsX5_noMaster) := goodIn_app (goodIn_r _ [4, 5, 6, 7] rfl (by decide +kernel)) ggX5_hear_X5_noMaster
set_option maxRecDepth 20000 in
theorem ggX5_hear_X5_noServant : GoodIn wsX5_hear wsX5_noServant := goodIn_r _ [16, 17, 10, 11, 7, 12, 22, 23, 24, 25, 26, 27, 28, 29, 30, 31, 32, 33, 34, 35, 36, 37, 38, 39, 40, 41, 42, 43, 44, 45, 46, 47, 48, 49] rfl (by decide +kernel)
set_option maxRecDepth 20000 in
theorem gX5_hear_X5_noServant : GoodIn wsX5_hear (wsV RX5 106 RX5 yX5_noServant wsX5_noServant) := goodIn_app (goodIn_r _ [13, 14, 15, 7] rfl (by decide +kernel)) ggX5_hear_X5_noServant
set_option maxRecDepth 20000 in
theorem ggX5_hear_X5_in : GoodIn wsX5_hear wsX5_in := goodIn_r _ [12] rfl (by decide +kernel)
set_option maxRecDepth 20000 in
theorem gX5_hear_X5_in : GoodIn wsX5_hear (va_wsS RX5 84 yX5_in wsX5_in) := goodIn_app (goodIn_r _ [10, 11, 7] rfl (by decide +kernel)) ggX5_hear_X5_in
set_option maxRecDepth 20000 in
theorem ggX5_hear_X5_held : GoodIn wsX5_hear wsX5_held := goodIn_r _ [21, 3, 22, 23, 24, 25, 26, 27, 28, 29, 30, 31, 32, 33, 34, 35, 36, 37, 38, 39, 40, 41, 42, 43, 44, 45, 46, 47, 48, 49] rfl (by decide +kernel)
set_option maxRecDepth 20000 in
theorem gX5_hear_X5_held : GoodIn wsX5_hear (wsV RX5 91 RX5 yX5_held wsX5_held) := goodIn_app (goodIn_r _ [18, 19, 20, 7] rfl (by decide +kernel)) ggX5_hear_X5_held
theorem dX5_hear_0 : decode cX5_hear 0 = .ok (.aload_n 0, 1) := by decide +kernel
theorem dX5_hear_1 : decode cX5_hear 1 = .ok (.iconst 0, 1) := by decide +kernel
theorem dX5_hear_2 : decode cX5_hear 2 = .ok (.putfield 78, 3) := by decide +kernel
theorem dX5_hear_5 : decode cX5_hear 5 = .ok (.aload_n 0, 1) := by decide +kernel
theorem dX5_hear_6 : decode cX5_hear 6 = .ok (.iload_n 1, 1) := by decide +kernel
theorem dX5_hear_7 : decode cX5_hear 7 = .ok (.invokevirtual 110, 3) := by decide +kernel
theorem dX5_hear_10 : decode cX5_hear 10 = .ok (.ifCond .ne 11, 3) := by decide +kernel
theorem dX5_hear_13 : decode cX5_hear 13 = .ok (.aload_n 0, 1) := by decide +kernel
theorem dX5_hear_14 : decode cX5_hear 14 = .ok (.iload_n 2, 1) := by decide +kernel
theorem dX5_hear_15 : decode cX5_hear 15 = .ok (.invokevirtual 106, 3) := by decide +kernel
theorem dX5_hear_18 : decode cX5_hear 18 = .ok (.ifCond .eq 5, 3) := by decide +kernel
theorem dX5_hear_21 : decode cX5_hear 21 = .ok (.iconst (-1), 1) := by decide +kernel
theorem dX5_hear_22 : decode cX5_hear 22 = .ok (.ireturn, 1) := by decide +kernel
theorem dX5_hear_23 : decode cX5_hear 23 = .ok (.iload_n 3, 1) := by decide +kernel
theorem dX5_hear_24 : decode cX5_hear 24 = .ok (.i2l, 1) := by decide +kernel
theorem dX5_hear_25 : decode cX5_hear 25 = .ok (.lconst 1, 1) := by decide +kernel
theorem dX5_hear_26 : decode cX5_hear 26 = .ok (.ldc2_w 100, 3) := by decide +kernel
theorem dX5_hear_29 : decode cX5_hear 29 = .ok (.invokestatic 84, 3) := by decide +kernel
theorem dX5_hear_32 : decode cX5_hear 32 = .ok (.ifCond .ne 6, 3) := by decide +kernel
theorem dX5_hear_35 : decode cX5_hear 35 = .ok (.bipush (-2), 2) := by decide +kernel
theorem dX5_hear_37 : decode cX5_hear 37 = .ok (.ireturn, 1) := by decide +kernel
theorem dX5_hear_38 : decode cX5_hear 38 = .ok (.aload_n 0, 1) := by decide +kernel
theorem dX5_hear_39 : decode cX5_hear 39 = .ok (.iload_n 1, 1) := by decide +kernel
theorem dX5_hear_40 : decode cX5_hear 40 = .ok (.iload_n 2, 1) := by decide +kernel
theorem dX5_hear_41 : decode cX5_hear 41 = .ok (.invokevirtual 91, 3) := by decide +kernel
theorem dX5_hear_44 : decode cX5_hear 44 = .ok (.istore 4, 2) := by decide +kernel
theorem dX5_hear_46 : decode cX5_hear 46 = .ok (.aload_n 0, 1) := by decide +kernel
theorem dX5_hear_47 : decode cX5_hear 47 = .ok (.getfield 25, 3) := by decide +kernel
theorem dX5_hear_50 : decode cX5_hear 50 = .ok (.bipush 10, 2) := by decide +kernel
theorem dX5_hear_52 : decode cX5_hear 52 = .ok (.iload_n 1, 1) := by decide +kernel
theorem dX5_hear_53 : decode cX5_hear 53 = .ok (.imul, 1) := by decide +kernel
theorem dX5_hear_54 : decode cX5_hear 54 = .ok (.iload_n 2, 1) := by decide +kernel
theorem dX5_hear_55 : decode cX5_hear 55 = .ok (.iadd, 1) := by decide +kernel
theorem dX5_hear_56 : decode cX5_hear 56 = .ok (.iload_n 3, 1) := by decide +kernel
theorem dX5_hear_57 : decode cX5_hear 57 = .ok (.iastore, 1) := by decide +kernel
theorem dX5_hear_58 : decode cX5_hear 58 = .ok (.iload 4, 2) := by decide +kernel
theorem dX5_hear_60 : decode cX5_hear 60 = .ok (.ireturn, 1) := by decide +kernel
set_option maxRecDepth 20000 in
theorem ggX5_pass_X5_noMaster : GoodIn wsX5_pass wsX5_noMaster := goodIn_r _ [7, 8, 9, 10, 6, 11, 17, 18, 19, 20, 21, 22, 23, 24, 25, 26, 27, 28, 29, 30, 31, 32, 33, 34, 35, 36, 37, 38, 39, 40, 41, 42, 43, 44] rfl (by decide +kernel)
set_option maxRecDepth 20000 in
theorem gX5_pass_X5_noMaster : GoodIn wsX5_pass (wsV RX5 110 RX5 yX5_noMaster wsX5_noMaster) := goodIn_app (goodIn_r _ [3, 4, 5, 6] rfl (by decide +kernel)) ggX5_pass_X5_noMaster
set_option maxRecDepth 20000 in
theorem ggX5_pass_X5_noServant : GoodIn wsX5_pass wsX5_noServant := goodIn_r _ [15, 16, 9, 10, 6, 11, 17, 18, 19, 20, 21, 22, 23, 24, 25, 26, 27, 28, 29, 30, 31, 32, 33, 34, 35, 36, 37, 38, 39, 40, 41, 42, 43, 44] rfl (by decide +kernel)
set_option maxRecDepth 20000 in
theorem gX5_pass_X5_noServant : GoodIn wsX5_pass (wsV RX5 106 RX5 yX5_noServant wsX5_noServant) := goodIn_app (goodIn_r _ [12, 13, 14, 6] rfl (by decide +kernel)) ggX5_pass_X5_noServant
theorem dX5_pass_0 : decode cX5_pass 0 = .ok (.aload_n 0, 1) := by decide +kernel
theorem dX5_pass_1 : decode cX5_pass 1 = .ok (.iconst 0, 1) := by decide +kernel
theorem dX5_pass_2 : decode cX5_pass 2 = .ok (.putfield 78, 3) := by decide +kernel
theorem dX5_pass_5 : decode cX5_pass 5 = .ok (.aload_n 0, 1) := by decide +kernel
theorem dX5_pass_6 : decode cX5_pass 6 = .ok (.iload_n 1, 1) := by decide +kernel
theorem dX5_pass_7 : decode cX5_pass 7 = .ok (.invokevirtual 110, 3) := by decide +kernel
theorem dX5_pass_10 : decode cX5_pass 10 = .ok (.ifCond .ne 19, 3) := by decide +kernel
theorem dX5_pass_13 : decode cX5_pass 13 = .ok (.aload_n 0, 1) := by decide +kernel
theorem dX5_pass_14 : decode cX5_pass 14 = .ok (.iload_n 2, 1) := by decide +kernel
theorem dX5_pass_15 : decode cX5_pass 15 = .ok (.invokevirtual 110, 3) := by decide +kernel
theorem dX5_pass_18 : decode cX5_pass 18 = .ok (.ifCond .ne 11, 3) := by decide +kernel
theorem dX5_pass_21 : decode cX5_pass 21 = .ok (.aload_n 0, 1) := by decide +kernel
theorem dX5_pass_22 : decode cX5_pass 22 = .ok (.iload_n 3, 1) := by decide +kernel
theorem dX5_pass_23 : decode cX5_pass 23 = .ok (.invokevirtual 106, 3) := by decide +kernel
theorem dX5_pass_26 : decode cX5_pass 26 = .ok (.ifCond .eq 5, 3) := by decide +kernel
theorem dX5_pass_29 : decode cX5_pass 29 = .ok (.iconst (-1), 1) := by decide +kernel
theorem dX5_pass_30 : decode cX5_pass 30 = .ok (.ireturn, 1) := by decide +kernel
theorem dX5_pass_31 : decode cX5_pass 31 = .ok (.iload_n 1, 1) := by decide +kernel
theorem dX5_pass_32 : decode cX5_pass 32 = .ok (.iload_n 2, 1) := by decide +kernel
theorem dX5_pass_33 : decode cX5_pass 33 = .ok (.if_icmp .eq 17, 3) := by decide +kernel
theorem dX5_pass_36 : decode cX5_pass 36 = .ok (.aload_n 0, 1) := by decide +kernel
theorem dX5_pass_37 : decode cX5_pass 37 = .ok (.getfield 25, 3) := by decide +kernel
theorem dX5_pass_40 : decode cX5_pass 40 = .ok (.bipush 10, 2) := by decide +kernel
theorem dX5_pass_42 : decode cX5_pass 42 = .ok (.iload_n 1, 1) := by decide +kernel
theorem dX5_pass_43 : decode cX5_pass 43 = .ok (.imul, 1) := by decide +kernel
theorem dX5_pass_44 : decode cX5_pass 44 = .ok (.iload_n 3, 1) := by decide +kernel
theorem dX5_pass_45 : decode cX5_pass 45 = .ok (.iadd, 1) := by decide +kernel
theorem dX5_pass_46 : decode cX5_pass 46 = .ok (.iaload, 1) := by decide +kernel
theorem dX5_pass_47 : decode cX5_pass 47 = .ok (.ifCond .ne 6, 3) := by decide +kernel
theorem dX5_pass_50 : decode cX5_pass 50 = .ok (.bipush (-3), 2) := by decide +kernel
theorem dX5_pass_52 : decode cX5_pass 52 = .ok (.ireturn, 1) := by decide +kernel
theorem dX5_pass_53 : decode cX5_pass 53 = .ok (.aload_n 0, 1) := by decide +kernel
theorem dX5_pass_54 : decode cX5_pass 54 = .ok (.getfield 25, 3) := by decide +kernel
theorem dX5_pass_57 : decode cX5_pass 57 = .ok (.bipush 10, 2) := by decide +kernel
theorem dX5_pass_59 : decode cX5_pass 59 = .ok (.iload_n 2, 1) := by decide +kernel
theorem dX5_pass_60 : decode cX5_pass 60 = .ok (.imul, 1) := by decide +kernel
theorem dX5_pass_61 : decode cX5_pass 61 = .ok (.iload_n 3, 1) := by decide +kernel
theorem dX5_pass_62 : decode cX5_pass 62 = .ok (.iadd, 1) := by decide +kernel
theorem dX5_pass_63 : decode cX5_pass 63 = .ok (.aload_n 0, 1) := by decide +kernel
theorem dX5_pass_64 : decode cX5_pass 64 = .ok (.getfield 25, 3) := by decide +kernel
theorem dX5_pass_67 : decode cX5_pass 67 = .ok (.bipush 10, 2) := by decide +kernel
theorem dX5_pass_69 : decode cX5_pass 69 = .ok (.iload_n 1, 1) := by decide +kernel
theorem dX5_pass_70 : decode cX5_pass 70 = .ok (.imul, 1) := by decide +kernel
theorem dX5_pass_71 : decode cX5_pass 71 = .ok (.iload_n 3, 1) := by decide +kernel
theorem dX5_pass_72 : decode cX5_pass 72 = .ok (.iadd, 1) := by decide +kernel
theorem dX5_pass_73 : decode cX5_pass 73 = .ok (.iaload, 1) := by decide +kernel
theorem dX5_pass_74 : decode cX5_pass 74 = .ok (.iastore, 1) := by decide +kernel
theorem dX5_pass_75 : decode cX5_pass 75 = .ok (.aload_n 0, 1) := by decide +kernel
theorem dX5_pass_76 : decode cX5_pass 76 = .ok (.getfield 25, 3) := by decide +kernel
theorem dX5_pass_79 : decode cX5_pass 79 = .ok (.bipush 10, 2) := by decide +kernel
theorem dX5_pass_81 : decode cX5_pass 81 = .ok (.iload_n 2, 1) := by decide +kernel
theorem dX5_pass_82 : decode cX5_pass 82 = .ok (.imul, 1) := by decide +kernel
theorem dX5_pass_83 : decode cX5_pass 83 = .ok (.iload_n 3, 1) := by decide +kernel
theorem dX5_pass_84 : decode cX5_pass 84 = .ok (.iadd, 1) := by decide +kernel
theorem dX5_pass_85 : decode cX5_pass 85 = .ok (.iaload, 1) := by decide +kernel
theorem dX5_pass_86 : decode cX5_pass 86 = .ok (.ireturn, 1) := by decide +kernel
set_option maxRecDepth 20000 in
theorem ggX5_about_X5_noServant : GoodIn wsX5_about wsX5_noServant := goodIn_r _ [14, 15, 16, 17, 13, 18, 19, 20, 21, 22, 23, 24, 25, 26, 27, 28, 29, 30, 31, 32, 33, 34, 35, 36, 37, 38, 39, 40, 41, 42, 43, 44, 45, 46] rfl (by decide +kernel)
set_option maxRecDepth 20000 in
theorem gX5_about_X5_noServant : GoodIn wsX5_about (wsV RX5 106 RX5 yX5_noServant wsX5_noServant) := goodIn_app (goodIn_r _ [10, 11, 12, 13] rfl (by decide +kernel)) ggX5_about_X5_noServant
theorem dX5_about_0 : decode cX5_about 0 = .ok (.aload_n 0, 1) := by decide +kernel
theorem dX5_about_1 : decode cX5_about 1 = .ok (.iconst 0, 1) := by decide +kernel
theorem dX5_about_2 : decode cX5_about 2 = .ok (.putfield 78, 3) := by decide +kernel
theorem dX5_about_5 : decode cX5_about 5 = .ok (.aload_n 0, 1) := by decide +kernel
theorem dX5_about_6 : decode cX5_about 6 = .ok (.iload_n 1, 1) := by decide +kernel
theorem dX5_about_7 : decode cX5_about 7 = .ok (.invokevirtual 106, 3) := by decide +kernel
theorem dX5_about_10 : decode cX5_about 10 = .ok (.ifCond .eq 5, 3) := by decide +kernel
theorem dX5_about_13 : decode cX5_about 13 = .ok (.iconst (-1), 1) := by decide +kernel
theorem dX5_about_14 : decode cX5_about 14 = .ok (.ireturn, 1) := by decide +kernel
theorem dX5_about_15 : decode cX5_about 15 = .ok (.aload_n 0, 1) := by decide +kernel
theorem dX5_about_16 : decode cX5_about 16 = .ok (.getfield 35, 3) := by decide +kernel
theorem dX5_about_19 : decode cX5_about 19 = .ok (.iload_n 1, 1) := by decide +kernel
theorem dX5_about_20 : decode cX5_about 20 = .ok (.iaload, 1) := by decide +kernel
theorem dX5_about_21 : decode cX5_about 21 = .ok (.bipush (-9), 2) := by decide +kernel
theorem dX5_about_23 : decode cX5_about 23 = .ok (.if_icmp .eq 7, 3) := by decide +kernel
theorem dX5_about_26 : decode cX5_about 26 = .ok (.iconst 1, 1) := by decide +kernel
theorem dX5_about_27 : decode cX5_about 27 = .ok (.goto 4, 3) := by decide +kernel
theorem dX5_about_30 : decode cX5_about 30 = .ok (.iconst 0, 1) := by decide +kernel
theorem dX5_about_31 : decode cX5_about 31 = .ok (.istore_n 3, 1) := by decide +kernel
theorem dX5_about_32 : decode cX5_about 32 = .ok (.iload_n 2, 1) := by decide +kernel
theorem dX5_about_33 : decode cX5_about 33 = .ok (.tableswitch 128 0 6 #[43, 50, 57, 64, 71, 87, 103], 43) := by decide +kernel
theorem dX5_about_76 : decode cX5_about 76 = .ok (.aload_n 0, 1) := by decide +kernel
theorem dX5_about_77 : decode cX5_about 77 = .ok (.getfield 7, 3) := by decide +kernel
theorem dX5_about_80 : decode cX5_about 80 = .ok (.iload_n 1, 1) := by decide +kernel
theorem dX5_about_81 : decode cX5_about 81 = .ok (.iaload, 1) := by decide +kernel
theorem dX5_about_82 : decode cX5_about 82 = .ok (.ireturn, 1) := by decide +kernel
theorem dX5_about_83 : decode cX5_about 83 = .ok (.aload_n 0, 1) := by decide +kernel
theorem dX5_about_84 : decode cX5_about 84 = .ok (.getfield 13, 3) := by decide +kernel
theorem dX5_about_87 : decode cX5_about 87 = .ok (.iload_n 1, 1) := by decide +kernel
theorem dX5_about_88 : decode cX5_about 88 = .ok (.iaload, 1) := by decide +kernel
theorem dX5_about_89 : decode cX5_about 89 = .ok (.ireturn, 1) := by decide +kernel
theorem dX5_about_90 : decode cX5_about 90 = .ok (.aload_n 0, 1) := by decide +kernel
theorem dX5_about_91 : decode cX5_about 91 = .ok (.getfield 16, 3) := by decide +kernel
theorem dX5_about_94 : decode cX5_about 94 = .ok (.iload_n 1, 1) := by decide +kernel
theorem dX5_about_95 : decode cX5_about 95 = .ok (.iaload, 1) := by decide +kernel
theorem dX5_about_96 : decode cX5_about 96 = .ok (.ireturn, 1) := by decide +kernel
theorem dX5_about_97 : decode cX5_about 97 = .ok (.aload_n 0, 1) := by decide +kernel
theorem dX5_about_98 : decode cX5_about 98 = .ok (.getfield 35, 3) := by decide +kernel
theorem dX5_about_101 : decode cX5_about 101 = .ok (.iload_n 1, 1) := by decide +kernel
theorem dX5_about_102 : decode cX5_about 102 = .ok (.iaload, 1) := by decide +kernel
theorem dX5_about_103 : decode cX5_about 103 = .ok (.ireturn, 1) := by decide +kernel
theorem dX5_about_104 : decode cX5_about 104 = .ok (.iload_n 3, 1) := by decide +kernel
theorem dX5_about_105 : decode cX5_about 105 = .ok (.ifCond .eq 12, 3) := by decide +kernel
theorem dX5_about_108 : decode cX5_about 108 = .ok (.aload_n 0, 1) := by decide +kernel
theorem dX5_about_109 : decode cX5_about 109 = .ok (.getfield 38, 3) := by decide +kernel
theorem dX5_about_112 : decode cX5_about 112 = .ok (.iload_n 1, 1) := by decide +kernel
theorem dX5_about_113 : decode cX5_about 113 = .ok (.iaload, 1) := by decide +kernel
theorem dX5_about_114 : decode cX5_about 114 = .ok (.goto 5, 3) := by decide +kernel
theorem dX5_about_117 : decode cX5_about 117 = .ok (.bipush (-9), 2) := by decide +kernel
theorem dX5_about_119 : decode cX5_about 119 = .ok (.ireturn, 1) := by decide +kernel
theorem dX5_about_120 : decode cX5_about 120 = .ok (.iload_n 3, 1) := by decide +kernel
theorem dX5_about_121 : decode cX5_about 121 = .ok (.ifCond .eq 12, 3) := by decide +kernel
theorem dX5_about_124 : decode cX5_about 124 = .ok (.aload_n 0, 1) := by decide +kernel
theorem dX5_about_125 : decode cX5_about 125 = .ok (.getfield 41, 3) := by decide +kernel
theorem dX5_about_128 : decode cX5_about 128 = .ok (.iload_n 1, 1) := by decide +kernel
theorem dX5_about_129 : decode cX5_about 129 = .ok (.iaload, 1) := by decide +kernel
theorem dX5_about_130 : decode cX5_about 130 = .ok (.goto 5, 3) := by decide +kernel
theorem dX5_about_133 : decode cX5_about 133 = .ok (.bipush (-9), 2) := by decide +kernel
theorem dX5_about_135 : decode cX5_about 135 = .ok (.ireturn, 1) := by decide +kernel
theorem dX5_about_136 : decode cX5_about 136 = .ok (.iload_n 3, 1) := by decide +kernel
theorem dX5_about_137 : decode cX5_about 137 = .ok (.ifCond .eq 21, 3) := by decide +kernel
theorem dX5_about_140 : decode cX5_about 140 = .ok (.aload_n 0, 1) := by decide +kernel
theorem dX5_about_141 : decode cX5_about 141 = .ok (.getfield 50, 3) := by decide +kernel
theorem dX5_about_144 : decode cX5_about 144 = .ok (.bipush (-9), 2) := by decide +kernel
theorem dX5_about_146 : decode cX5_about 146 = .ok (.if_icmp .eq 12, 3) := by decide +kernel
theorem dX5_about_149 : decode cX5_about 149 = .ok (.aload_n 0, 1) := by decide +kernel
theorem dX5_about_150 : decode cX5_about 150 = .ok (.getfield 54, 3) := by decide +kernel
theorem dX5_about_153 : decode cX5_about 153 = .ok (.iload_n 1, 1) := by decide +kernel
theorem dX5_about_154 : decode cX5_about 154 = .ok (.iaload, 1) := by decide +kernel
theorem dX5_about_155 : decode cX5_about 155 = .ok (.goto 5, 3) := by decide +kernel
theorem dX5_about_158 : decode cX5_about 158 = .ok (.bipush (-9), 2) := by decide +kernel
theorem dX5_about_160 : decode cX5_about 160 = .ok (.ireturn, 1) := by decide +kernel
theorem dX5_about_161 : decode cX5_about 161 = .ok (.bipush (-2), 2) := by decide +kernel
theorem dX5_about_163 : decode cX5_about 163 = .ok (.ireturn, 1) := by decide +kernel
set_option maxRecDepth 20000 in
theorem ggX5_house_X5_noMaster : GoodIn wsX5_house wsX5_noMaster := goodIn_r _ [10, 11, 12, 13, 9, 14, 15, 16, 17, 18, 19, 20, 21, 22, 23, 24, 25, 26, 27, 28, 29, 30, 31, 32, 33, 34, 35, 36, 37, 38, 39, 40, 41, 42] rfl (by decide +kernel)
set_option maxRecDepth 20000 in
theorem gX5_house_X5_noMaster : GoodIn wsX5_house (wsV RX5 110 RX5 yX5_noMaster wsX5_noMaster) := goodIn_app (goodIn_r _ [6, 7, 8, 9] rfl (by decide +kernel)) ggX5_house_X5_noMaster
theorem dX5_house_0 : decode cX5_house 0 = .ok (.aload_n 0, 1) := by decide +kernel
theorem dX5_house_1 : decode cX5_house 1 = .ok (.iconst 0, 1) := by decide +kernel
theorem dX5_house_2 : decode cX5_house 2 = .ok (.putfield 78, 3) := by decide +kernel
theorem dX5_house_5 : decode cX5_house 5 = .ok (.aload_n 0, 1) := by decide +kernel
theorem dX5_house_6 : decode cX5_house 6 = .ok (.iload_n 1, 1) := by decide +kernel
theorem dX5_house_7 : decode cX5_house 7 = .ok (.invokevirtual 110, 3) := by decide +kernel
theorem dX5_house_10 : decode cX5_house 10 = .ok (.ifCond .eq 5, 3) := by decide +kernel
theorem dX5_house_13 : decode cX5_house 13 = .ok (.iconst (-1), 1) := by decide +kernel
theorem dX5_house_14 : decode cX5_house 14 = .ok (.ireturn, 1) := by decide +kernel
theorem dX5_house_15 : decode cX5_house 15 = .ok (.iconst 0, 1) := by decide +kernel
theorem dX5_house_16 : decode cX5_house 16 = .ok (.istore_n 3, 1) := by decide +kernel
theorem dX5_house_17 : decode cX5_house 17 = .ok (.iconst 0, 1) := by decide +kernel
theorem dX5_house_18 : decode cX5_house 18 = .ok (.istore 4, 2) := by decide +kernel
theorem dX5_house_20 : decode cX5_house 20 = .ok (.iload 4, 2) := by decide +kernel
theorem dX5_house_22 : decode cX5_house 22 = .ok (.bipush 10, 2) := by decide +kernel
theorem dX5_house_24 : decode cX5_house 24 = .ok (.if_icmp .ge 32, 3) := by decide +kernel
theorem dX5_house_27 : decode cX5_house 27 = .ok (.iload_n 3, 1) := by decide +kernel
theorem dX5_house_28 : decode cX5_house 28 = .ok (.aload_n 0, 1) := by decide +kernel
theorem dX5_house_29 : decode cX5_house 29 = .ok (.getfield 32, 3) := by decide +kernel
theorem dX5_house_32 : decode cX5_house 32 = .ok (.bipush 10, 2) := by decide +kernel
theorem dX5_house_34 : decode cX5_house 34 = .ok (.iload_n 1, 1) := by decide +kernel
theorem dX5_house_35 : decode cX5_house 35 = .ok (.imul, 1) := by decide +kernel
theorem dX5_house_36 : decode cX5_house 36 = .ok (.iload 4, 2) := by decide +kernel
theorem dX5_house_38 : decode cX5_house 38 = .ok (.iadd, 1) := by decide +kernel
theorem dX5_house_39 : decode cX5_house 39 = .ok (.baload, 1) := by decide +kernel
theorem dX5_house_40 : decode cX5_house 40 = .ok (.ifCond .eq 7, 3) := by decide +kernel
theorem dX5_house_43 : decode cX5_house 43 = .ok (.iconst 1, 1) := by decide +kernel
theorem dX5_house_44 : decode cX5_house 44 = .ok (.goto 4, 3) := by decide +kernel
theorem dX5_house_47 : decode cX5_house 47 = .ok (.iconst 0, 1) := by decide +kernel
theorem dX5_house_48 : decode cX5_house 48 = .ok (.iadd, 1) := by decide +kernel
theorem dX5_house_49 : decode cX5_house 49 = .ok (.istore_n 3, 1) := by decide +kernel
theorem dX5_house_50 : decode cX5_house 50 = .ok (.iinc 4 1, 3) := by decide +kernel
theorem dX5_house_53 : decode cX5_house 53 = .ok (.goto (-33), 3) := by decide +kernel
theorem dX5_house_56 : decode cX5_house 56 = .ok (.iload_n 2, 1) := by decide +kernel
theorem dX5_house_57 : decode cX5_house 57 = .ok (.ifCond .ne 12, 3) := by decide +kernel
theorem dX5_house_60 : decode cX5_house 60 = .ok (.aload_n 0, 1) := by decide +kernel
theorem dX5_house_61 : decode cX5_house 61 = .ok (.getfield 19, 3) := by decide +kernel
theorem dX5_house_64 : decode cX5_house 64 = .ok (.iload_n 1, 1) := by decide +kernel
theorem dX5_house_65 : decode cX5_house 65 = .ok (.iaload, 1) := by decide +kernel
theorem dX5_house_66 : decode cX5_house 66 = .ok (.goto 42, 3) := by decide +kernel
theorem dX5_house_69 : decode cX5_house 69 = .ok (.iload_n 2, 1) := by decide +kernel
theorem dX5_house_70 : decode cX5_house 70 = .ok (.iconst 1, 1) := by decide +kernel
theorem dX5_house_71 : decode cX5_house 71 = .ok (.if_icmp .ne 12, 3) := by decide +kernel
theorem dX5_house_74 : decode cX5_house 74 = .ok (.aload_n 0, 1) := by decide +kernel
theorem dX5_house_75 : decode cX5_house 75 = .ok (.getfield 22, 3) := by decide +kernel
theorem dX5_house_78 : decode cX5_house 78 = .ok (.iload_n 1, 1) := by decide +kernel
theorem dX5_house_79 : decode cX5_house 79 = .ok (.iaload, 1) := by decide +kernel
theorem dX5_house_80 : decode cX5_house 80 = .ok (.goto 28, 3) := by decide +kernel
theorem dX5_house_83 : decode cX5_house 83 = .ok (.iload_n 2, 1) := by decide +kernel
theorem dX5_house_84 : decode cX5_house 84 = .ok (.iconst 2, 1) := by decide +kernel
theorem dX5_house_85 : decode cX5_house 85 = .ok (.if_icmp .ne 12, 3) := by decide +kernel
theorem dX5_house_88 : decode cX5_house 88 = .ok (.aload_n 0, 1) := by decide +kernel
theorem dX5_house_89 : decode cX5_house 89 = .ok (.getfield 44, 3) := by decide +kernel
theorem dX5_house_92 : decode cX5_house 92 = .ok (.iload_n 1, 1) := by decide +kernel
theorem dX5_house_93 : decode cX5_house 93 = .ok (.iaload, 1) := by decide +kernel
theorem dX5_house_94 : decode cX5_house 94 = .ok (.goto 14, 3) := by decide +kernel
theorem dX5_house_97 : decode cX5_house 97 = .ok (.iload_n 2, 1) := by decide +kernel
theorem dX5_house_98 : decode cX5_house 98 = .ok (.iconst 3, 1) := by decide +kernel
theorem dX5_house_99 : decode cX5_house 99 = .ok (.if_icmp .ne 7, 3) := by decide +kernel
theorem dX5_house_102 : decode cX5_house 102 = .ok (.iload_n 3, 1) := by decide +kernel
theorem dX5_house_103 : decode cX5_house 103 = .ok (.goto 5, 3) := by decide +kernel
theorem dX5_house_106 : decode cX5_house 106 = .ok (.bipush (-2), 2) := by decide +kernel
theorem dX5_house_108 : decode cX5_house 108 = .ok (.ireturn, 1) := by decide +kernel
set_option maxRecDepth 20000 in
theorem ggX5_holds_X5_noMaster : GoodIn wsX5_holds wsX5_noMaster := goodIn_r _ [6, 7, 8, 9, 5, 10, 21, 22, 23, 24, 25, 26, 27, 28, 29, 30, 31, 32, 33, 34, 35, 36, 37, 38, 39, 40, 41, 42, 43, 44, 45, 46, 47, 48] rfl (by decide +kernel)
set_option maxRecDepth 20000 in
theorem gX5_holds_X5_noMaster : GoodIn wsX5_holds (wsV RX5 110 RX5 yX5_noMaster wsX5_noMaster) := goodIn_app (goodIn_r _ [2, 3, 4, 5] rfl (by decide +kernel)) ggX5_holds_X5_noMaster
set_option maxRecDepth 20000 in
theorem ggX5_holds_X5_noServant : GoodIn wsX5_holds wsX5_noServant := goodIn_r _ [14, 15, 8, 9, 5, 10, 21, 22, 23, 24, 25, 26, 27, 28, 29, 30, 31, 32, 33, 34, 35, 36, 37, 38, 39, 40, 41, 42, 43, 44, 45, 46, 47, 48] rfl (by decide +kernel)
set_option maxRecDepth 20000 in
theorem gX5_holds_X5_noServant : GoodIn wsX5_holds (wsV RX5 106 RX5 yX5_noServant wsX5_noServant) := goodIn_app (goodIn_r _ [11, 12, 13, 5] rfl (by decide +kernel)) ggX5_holds_X5_noServant
set_option maxRecDepth 20000 in
theorem ggX5_holds_X5_held : GoodIn wsX5_holds wsX5_held := goodIn_r _ [19, 20, 21, 22, 23, 24, 25, 26, 27, 28, 29, 30, 31, 32, 33, 34, 35, 36, 37, 38, 39, 40, 41, 42, 43, 44, 45, 46, 47, 48] rfl (by decide +kernel)
set_option maxRecDepth 20000 in
theorem gX5_holds_X5_held : GoodIn wsX5_holds (wsV RX5 91 RX5 yX5_held wsX5_held) := goodIn_app (goodIn_r _ [16, 17, 18, 5] rfl (by decide +kernel)) ggX5_holds_X5_held
theorem dX5_holds_0 : decode cX5_holds 0 = .ok (.aload_n 0, 1) := by decide +kernel
theorem dX5_holds_1 : decode cX5_holds 1 = .ok (.iconst 0, 1) := by decide +kernel
theorem dX5_holds_2 : decode cX5_holds 2 = .ok (.putfield 78, 3) := by decide +kernel
theorem dX5_holds_5 : decode cX5_holds 5 = .ok (.aload_n 0, 1) := by decide +kernel
theorem dX5_holds_6 : decode cX5_holds 6 = .ok (.iload_n 1, 1) := by decide +kernel
theorem dX5_holds_7 : decode cX5_holds 7 = .ok (.invokevirtual 110, 3) := by decide +kernel
theorem dX5_holds_10 : decode cX5_holds 10 = .ok (.ifCond .ne 11, 3) := by decide +kernel
theorem dX5_holds_13 : decode cX5_holds 13 = .ok (.aload_n 0, 1) := by decide +kernel
theorem dX5_holds_14 : decode cX5_holds 14 = .ok (.iload_n 2, 1) := by decide +kernel
theorem dX5_holds_15 : decode cX5_holds 15 = .ok (.invokevirtual 106, 3) := by decide +kernel
theorem dX5_holds_18 : decode cX5_holds 18 = .ok (.ifCond .eq 7, 3) := by decide +kernel
theorem dX5_holds_21 : decode cX5_holds 21 = .ok (.iconst (-1), 1) := by decide +kernel
theorem dX5_holds_22 : decode cX5_holds 22 = .ok (.goto 9, 3) := by decide +kernel
theorem dX5_holds_25 : decode cX5_holds 25 = .ok (.aload_n 0, 1) := by decide +kernel
theorem dX5_holds_26 : decode cX5_holds 26 = .ok (.iload_n 1, 1) := by decide +kernel
theorem dX5_holds_27 : decode cX5_holds 27 = .ok (.iload_n 2, 1) := by decide +kernel
theorem dX5_holds_28 : decode cX5_holds 28 = .ok (.invokevirtual 91, 3) := by decide +kernel
theorem dX5_holds_31 : decode cX5_holds 31 = .ok (.ireturn, 1) := by decide +kernel
set_option maxRecDepth 20000 in
theorem ggX5_offer_X5_noMaster : GoodIn wsX5_offer wsX5_noMaster := goodIn_r _ [6, 7, 8, 9, 5, 10, 30, 31, 32, 33, 34, 35, 36, 37, 38, 39, 40, 41, 42, 43, 44, 45, 46, 47, 48, 49, 50, 51, 52, 53, 54, 55, 56, 57] rfl (by decide +kernel)
set_option maxRecDepth 20000 in
theorem gX5_offer_X5_noMaster : GoodIn wsX5_offer (wsV RX5 110 RX5 yX5_noMaster wsX5_noMaster) := goodIn_app (goodIn_r _ [2, 3, 4, 5] rfl (by decide +kernel)) ggX5_offer_X5_noMaster
set_option maxRecDepth 20000 in
theorem ggX5_offer_X5_noServant : GoodIn wsX5_offer wsX5_noServant := goodIn_r _ [14, 15, 8, 9, 5, 10, 30, 31, 32, 33, 34, 35, 36, 37, 38, 39, 40, 41, 42, 43, 44, 45, 46, 47, 48, 49, 50, 51, 52, 53, 54, 55, 56, 57] rfl (by decide +kernel)
set_option maxRecDepth 20000 in
theorem gX5_offer_X5_noServant : GoodIn wsX5_offer (wsV RX5 106 RX5 yX5_noServant wsX5_noServant) := goodIn_app (goodIn_r _ [11, 12, 13, 5] rfl (by decide +kernel)) ggX5_offer_X5_noServant
set_option maxRecDepth 20000 in
theorem ggX5_offer_X5_offerOf : GoodIn wsX5_offer wsX5_offerOf := goodIn_r _ [19, 20, 21, 22, 23, 24, 25, 26, 27, 5, 28, 29, 30, 31, 32, 33, 34, 35, 36, 37, 38, 39, 40, 41, 42, 43, 44, 45, 46, 47, 48, 49, 50, 51, 52, 53, 54, 55, 56, 57] rfl (by decide +kernel)
set_option maxRecDepth 20000 in
theorem gX5_offer_X5_offerOf : GoodIn wsX5_offer (wsV RX5 95 RX5 yX5_offerOf wsX5_offerOf) := goodIn_app (goodIn_r _ [16, 17, 18, 5] rfl (by decide +kernel)) ggX5_offer_X5_offerOf
theorem dX5_offer_0 : decode cX5_offer 0 = .ok (.aload_n 0, 1) := by decide +kernel
theorem dX5_offer_1 : decode cX5_offer 1 = .ok (.iconst 0, 1) := by decide +kernel
theorem dX5_offer_2 : decode cX5_offer 2 = .ok (.putfield 78, 3) := by decide +kernel
theorem dX5_offer_5 : decode cX5_offer 5 = .ok (.aload_n 0, 1) := by decide +kernel
theorem dX5_offer_6 : decode cX5_offer 6 = .ok (.iload_n 1, 1) := by decide +kernel
theorem dX5_offer_7 : decode cX5_offer 7 = .ok (.invokevirtual 110, 3) := by decide +kernel
theorem dX5_offer_10 : decode cX5_offer 10 = .ok (.ifCond .ne 11, 3) := by decide +kernel
theorem dX5_offer_13 : decode cX5_offer 13 = .ok (.aload_n 0, 1) := by decide +kernel
theorem dX5_offer_14 : decode cX5_offer 14 = .ok (.iload_n 2, 1) := by decide +kernel
theorem dX5_offer_15 : decode cX5_offer 15 = .ok (.invokevirtual 106, 3) := by decide +kernel
theorem dX5_offer_18 : decode cX5_offer 18 = .ok (.ifCond .eq 7, 3) := by decide +kernel
theorem dX5_offer_21 : decode cX5_offer 21 = .ok (.iconst (-1), 1) := by decide +kernel
theorem dX5_offer_22 : decode cX5_offer 22 = .ok (.goto 9, 3) := by decide +kernel
theorem dX5_offer_25 : decode cX5_offer 25 = .ok (.aload_n 0, 1) := by decide +kernel
theorem dX5_offer_26 : decode cX5_offer 26 = .ok (.iload_n 1, 1) := by decide +kernel
theorem dX5_offer_27 : decode cX5_offer 27 = .ok (.iload_n 2, 1) := by decide +kernel
theorem dX5_offer_28 : decode cX5_offer 28 = .ok (.invokevirtual 95, 3) := by decide +kernel
theorem dX5_offer_31 : decode cX5_offer 31 = .ok (.ireturn, 1) := by decide +kernel
set_option maxRecDepth 20000 in
theorem ggX5_next_X5_noMaster : GoodIn wsX5_next wsX5_noMaster := goodIn_r _ [7, 8, 9, 10, 6, 11, 31, 32, 33, 34, 35, 36, 37, 38, 39, 40, 41, 42, 43, 44, 45, 46, 47, 48, 49, 50, 51, 52, 53, 54, 55, 56, 57, 58] rfl (by decide +kernel)
set_option maxRecDepth 20000 in
theorem gX5_next_X5_noMaster : GoodIn wsX5_next (wsV RX5 110 RX5 yX5_noMaster wsX5_noMaster) := goodIn_app (goodIn_r _ [3, 4, 5, 6] rfl (by decide +kernel)) ggX5_next_X5_noMaster
set_option maxRecDepth 20000 in
theorem ggX5_next_X5_nextOf : GoodIn wsX5_next wsX5_nextOf := goodIn_r _ [15, 16, 17, 18, 19, 6, 20, 21, 22, 23, 24, 25, 26, 27, 28, 29, 30, 31, 32, 33, 34, 35, 36, 37, 38, 39, 40, 41, 42, 43, 44, 45, 46, 47, 48, 49, 50, 51, 52, 53, 54, 55, 56, 57, 58] rfl (by decide +kernel)
set_option maxRecDepth 20000 in
theorem gX5_next_X5_nextOf : GoodIn wsX5_next (wsV RX5 113 RX5 yX5_nextOf wsX5_nextOf) := goodIn_app (goodIn_r _ [12, 13, 14, 6] rfl (by decide +kernel)) ggX5_next_X5_nextOf
theorem dX5_next_0 : decode cX5_next 0 = .ok (.aload_n 0, 1) := by decide +kernel
theorem dX5_next_1 : decode cX5_next 1 = .ok (.iconst 0, 1) := by decide +kernel
theorem dX5_next_2 : decode cX5_next 2 = .ok (.putfield 78, 3) := by decide +kernel
theorem dX5_next_5 : decode cX5_next 5 = .ok (.aload_n 0, 1) := by decide +kernel
theorem dX5_next_6 : decode cX5_next 6 = .ok (.iload_n 1, 1) := by decide +kernel
theorem dX5_next_7 : decode cX5_next 7 = .ok (.invokevirtual 110, 3) := by decide +kernel
theorem dX5_next_10 : decode cX5_next 10 = .ok (.ifCond .eq 7, 3) := by decide +kernel
theorem dX5_next_13 : decode cX5_next 13 = .ok (.iconst (-1), 1) := by decide +kernel
theorem dX5_next_14 : decode cX5_next 14 = .ok (.goto 12, 3) := by decide +kernel
theorem dX5_next_17 : decode cX5_next 17 = .ok (.aload_n 0, 1) := by decide +kernel
theorem dX5_next_18 : decode cX5_next 18 = .ok (.iload_n 1, 1) := by decide +kernel
theorem dX5_next_19 : decode cX5_next 19 = .ok (.aload_n 0, 1) := by decide +kernel
theorem dX5_next_20 : decode cX5_next 20 = .ok (.getfield 32, 3) := by decide +kernel
theorem dX5_next_23 : decode cX5_next 23 = .ok (.invokevirtual 113, 3) := by decide +kernel
theorem dX5_next_26 : decode cX5_next 26 = .ok (.ireturn, 1) := by decide +kernel
set_option maxRecDepth 20000 in
theorem ggX5_ask_X5_nextOf : GoodIn wsX5_ask wsX5_nextOf := goodIn_r _ [13, 14, 15, 16, 17, 12, 18, 19, 20, 21, 22, 23, 24, 25, 26, 27, 28, 29, 30, 31, 32, 33, 34, 35, 36, 37, 38, 39, 40, 41, 42, 43, 44, 45, 46, 47, 48, 49, 50, 51, 52, 53, 54, 55, 56] rfl (by decide +kernel)
set_option maxRecDepth 20000 in
theorem gX5_ask_X5_nextOf : GoodIn wsX5_ask (wsV RX5 113 RX5 yX5_nextOf wsX5_nextOf) := goodIn_app (goodIn_r _ [9, 10, 11, 12] rfl (by decide +kernel)) ggX5_ask_X5_nextOf
set_option maxRecDepth 20000 in
theorem ggX5_ask_X5_offerOf : GoodIn wsX5_ask wsX5_offerOf := goodIn_r _ [18, 19, 20, 21, 22, 23, 24, 25, 26, 12, 27, 28, 29, 30, 31, 32, 33, 34, 35, 36, 37, 38, 39, 40, 41, 42, 43, 44, 45, 46, 47, 48, 49, 50, 51, 52, 53, 54, 55, 56] rfl (by decide +kernel)
set_option maxRecDepth 20000 in
theorem gX5_ask_X5_offerOf : GoodIn wsX5_ask (wsV RX5 95 RX5 yX5_offerOf wsX5_offerOf) := goodIn_app (goodIn_r _ [15, 16, 17, 12] rfl (by decide +kernel)) ggX5_ask_X5_offerOf
theorem dX5_ask_0 : decode cX5_ask 0 = .ok (.aload_n 0, 1) := by decide +kernel
theorem dX5_ask_1 : decode cX5_ask 1 = .ok (.iload_n 1, 1) := by decide +kernel
theorem dX5_ask_2 : decode cX5_ask 2 = .ok (.aload_n 0, 1) := by decide +kernel
theorem dX5_ask_3 : decode cX5_ask 3 = .ok (.getfield 32, 3) := by decide +kernel
theorem dX5_ask_6 : decode cX5_ask 6 = .ok (.invokevirtual 113, 3) := by decide +kernel
theorem dX5_ask_9 : decode cX5_ask 9 = .ok (.istore_n 2, 1) := by decide +kernel
theorem dX5_ask_10 : decode cX5_ask 10 = .ok (.aload_n 0, 1) := by decide +kernel
theorem dX5_ask_11 : decode cX5_ask 11 = .ok (.getfield 44, 3) := by decide +kernel
theorem dX5_ask_14 : decode cX5_ask 14 = .ok (.iload_n 1, 1) := by decide +kernel
theorem dX5_ask_15 : decode cX5_ask 15 = .ok (.iaload, 1) := by decide +kernel
theorem dX5_ask_16 : decode cX5_ask 16 = .ok (.bipush (-9), 2) := by decide +kernel
theorem dX5_ask_18 : decode cX5_ask 18 = .ok (.if_icmp .ne 9, 3) := by decide +kernel
theorem dX5_ask_21 : decode cX5_ask 21 = .ok (.iload_n 2, 1) := by decide +kernel
theorem dX5_ask_22 : decode cX5_ask 22 = .ok (.bipush (-9), 2) := by decide +kernel
theorem dX5_ask_24 : decode cX5_ask 24 = .ok (.if_icmp .ne 4, 3) := by decide +kernel
theorem dX5_ask_27 : decode cX5_ask 27 = .ok (.return_, 1) := by decide +kernel
theorem dX5_ask_28 : decode cX5_ask 28 = .ok (.aload_n 0, 1) := by decide +kernel
theorem dX5_ask_29 : decode cX5_ask 29 = .ok (.iload_n 1, 1) := by decide +kernel
theorem dX5_ask_30 : decode cX5_ask 30 = .ok (.iload_n 2, 1) := by decide +kernel
theorem dX5_ask_31 : decode cX5_ask 31 = .ok (.invokevirtual 95, 3) := by decide +kernel
theorem dX5_ask_34 : decode cX5_ask 34 = .ok (.istore_n 3, 1) := by decide +kernel
theorem dX5_ask_35 : decode cX5_ask 35 = .ok (.aload_n 0, 1) := by decide +kernel
theorem dX5_ask_36 : decode cX5_ask 36 = .ok (.getfield 32, 3) := by decide +kernel
theorem dX5_ask_39 : decode cX5_ask 39 = .ok (.bipush 10, 2) := by decide +kernel
theorem dX5_ask_41 : decode cX5_ask 41 = .ok (.iload_n 1, 1) := by decide +kernel
theorem dX5_ask_42 : decode cX5_ask 42 = .ok (.imul, 1) := by decide +kernel
theorem dX5_ask_43 : decode cX5_ask 43 = .ok (.iload_n 2, 1) := by decide +kernel
theorem dX5_ask_44 : decode cX5_ask 44 = .ok (.iadd, 1) := by decide +kernel
theorem dX5_ask_45 : decode cX5_ask 45 = .ok (.iconst 1, 1) := by decide +kernel
theorem dX5_ask_46 : decode cX5_ask 46 = .ok (.bastore, 1) := by decide +kernel
theorem dX5_ask_47 : decode cX5_ask 47 = .ok (.aload_n 0, 1) := by decide +kernel
theorem dX5_ask_48 : decode cX5_ask 48 = .ok (.getfield 35, 3) := by decide +kernel
theorem dX5_ask_51 : decode cX5_ask 51 = .ok (.iload_n 2, 1) := by decide +kernel
theorem dX5_ask_52 : decode cX5_ask 52 = .ok (.iaload, 1) := by decide +kernel
theorem dX5_ask_53 : decode cX5_ask 53 = .ok (.istore 4, 2) := by decide +kernel
theorem dX5_ask_55 : decode cX5_ask 55 = .ok (.iload 4, 2) := by decide +kernel
theorem dX5_ask_57 : decode cX5_ask 57 = .ok (.bipush (-9), 2) := by decide +kernel
theorem dX5_ask_59 : decode cX5_ask 59 = .ok (.if_icmp .eq 22, 3) := by decide +kernel
theorem dX5_ask_62 : decode cX5_ask 62 = .ok (.aload_n 0, 1) := by decide +kernel
theorem dX5_ask_63 : decode cX5_ask 63 = .ok (.getfield 117, 3) := by decide +kernel
theorem dX5_ask_66 : decode cX5_ask 66 = .ok (.bipush 120, 2) := by decide +kernel
theorem dX5_ask_68 : decode cX5_ask 68 = .ok (.if_icmp .ge 17, 3) := by decide +kernel
theorem dX5_ask_71 : decode cX5_ask 71 = .ok (.iload_n 3, 1) := by decide +kernel
theorem dX5_ask_72 : decode cX5_ask 72 = .ok (.aload_n 0, 1) := by decide +kernel
theorem dX5_ask_73 : decode cX5_ask 73 = .ok (.getfield 38, 3) := by decide +kernel
theorem dX5_ask_76 : decode cX5_ask 76 = .ok (.iload_n 2, 1) := by decide +kernel
theorem dX5_ask_77 : decode cX5_ask 77 = .ok (.iaload, 1) := by decide +kernel
theorem dX5_ask_78 : decode cX5_ask 78 = .ok (.if_icmp .le 7, 3) := by decide +kernel
theorem dX5_ask_81 : decode cX5_ask 81 = .ok (.iconst 1, 1) := by decide +kernel
theorem dX5_ask_82 : decode cX5_ask 82 = .ok (.goto 4, 3) := by decide +kernel
theorem dX5_ask_85 : decode cX5_ask 85 = .ok (.iconst 0, 1) := by decide +kernel
theorem dX5_ask_86 : decode cX5_ask 86 = .ok (.istore 5, 2) := by decide +kernel
theorem dX5_ask_88 : decode cX5_ask 88 = .ok (.aload_n 0, 1) := by decide +kernel
theorem dX5_ask_89 : decode cX5_ask 89 = .ok (.getfield 47, 3) := by decide +kernel
theorem dX5_ask_92 : decode cX5_ask 92 = .ok (.bipush 6, 2) := by decide +kernel
theorem dX5_ask_94 : decode cX5_ask 94 = .ok (.aload_n 0, 1) := by decide +kernel
theorem dX5_ask_95 : decode cX5_ask 95 = .ok (.getfield 120, 3) := by decide +kernel
theorem dX5_ask_98 : decode cX5_ask 98 = .ok (.imul, 1) := by decide +kernel
theorem dX5_ask_99 : decode cX5_ask 99 = .ok (.aload_n 0, 1) := by decide +kernel
theorem dX5_ask_100 : decode cX5_ask 100 = .ok (.getfield 117, 3) := by decide +kernel
theorem dX5_ask_103 : decode cX5_ask 103 = .ok (.iastore, 1) := by decide +kernel
theorem dX5_ask_104 : decode cX5_ask 104 = .ok (.aload_n 0, 1) := by decide +kernel
theorem dX5_ask_105 : decode cX5_ask 105 = .ok (.getfield 47, 3) := by decide +kernel
theorem dX5_ask_108 : decode cX5_ask 108 = .ok (.bipush 6, 2) := by decide +kernel
theorem dX5_ask_110 : decode cX5_ask 110 = .ok (.aload_n 0, 1) := by decide +kernel
theorem dX5_ask_111 : decode cX5_ask 111 = .ok (.getfield 120, 3) := by decide +kernel
theorem dX5_ask_114 : decode cX5_ask 114 = .ok (.imul, 1) := by decide +kernel
theorem dX5_ask_115 : decode cX5_ask 115 = .ok (.iconst 1, 1) := by decide +kernel
theorem dX5_ask_116 : decode cX5_ask 116 = .ok (.iadd, 1) := by decide +kernel
theorem dX5_ask_117 : decode cX5_ask 117 = .ok (.iload_n 1, 1) := by decide +kernel
theorem dX5_ask_118 : decode cX5_ask 118 = .ok (.iastore, 1) := by decide +kernel
theorem dX5_ask_119 : decode cX5_ask 119 = .ok (.aload_n 0, 1) := by decide +kernel
theorem dX5_ask_120 : decode cX5_ask 120 = .ok (.getfield 47, 3) := by decide +kernel
theorem dX5_ask_123 : decode cX5_ask 123 = .ok (.bipush 6, 2) := by decide +kernel
theorem dX5_ask_125 : decode cX5_ask 125 = .ok (.aload_n 0, 1) := by decide +kernel
theorem dX5_ask_126 : decode cX5_ask 126 = .ok (.getfield 120, 3) := by decide +kernel
theorem dX5_ask_129 : decode cX5_ask 129 = .ok (.imul, 1) := by decide +kernel
theorem dX5_ask_130 : decode cX5_ask 130 = .ok (.iconst 2, 1) := by decide +kernel
theorem dX5_ask_131 : decode cX5_ask 131 = .ok (.iadd, 1) := by decide +kernel
theorem dX5_ask_132 : decode cX5_ask 132 = .ok (.iload_n 2, 1) := by decide +kernel
theorem dX5_ask_133 : decode cX5_ask 133 = .ok (.iastore, 1) := by decide +kernel
theorem dX5_ask_134 : decode cX5_ask 134 = .ok (.aload_n 0, 1) := by decide +kernel
theorem dX5_ask_135 : decode cX5_ask 135 = .ok (.getfield 47, 3) := by decide +kernel
theorem dX5_ask_138 : decode cX5_ask 138 = .ok (.bipush 6, 2) := by decide +kernel
theorem dX5_ask_140 : decode cX5_ask 140 = .ok (.aload_n 0, 1) := by decide +kernel
theorem dX5_ask_141 : decode cX5_ask 141 = .ok (.getfield 120, 3) := by decide +kernel
theorem dX5_ask_144 : decode cX5_ask 144 = .ok (.imul, 1) := by decide +kernel
theorem dX5_ask_145 : decode cX5_ask 145 = .ok (.iconst 3, 1) := by decide +kernel
theorem dX5_ask_146 : decode cX5_ask 146 = .ok (.iadd, 1) := by decide +kernel
theorem dX5_ask_147 : decode cX5_ask 147 = .ok (.iload_n 3, 1) := by decide +kernel
theorem dX5_ask_148 : decode cX5_ask 148 = .ok (.iastore, 1) := by decide +kernel
theorem dX5_ask_149 : decode cX5_ask 149 = .ok (.aload_n 0, 1) := by decide +kernel
theorem dX5_ask_150 : decode cX5_ask 150 = .ok (.getfield 47, 3) := by decide +kernel
theorem dX5_ask_153 : decode cX5_ask 153 = .ok (.bipush 6, 2) := by decide +kernel
theorem dX5_ask_155 : decode cX5_ask 155 = .ok (.aload_n 0, 1) := by decide +kernel
theorem dX5_ask_156 : decode cX5_ask 156 = .ok (.getfield 120, 3) := by decide +kernel
theorem dX5_ask_159 : decode cX5_ask 159 = .ok (.imul, 1) := by decide +kernel
theorem dX5_ask_160 : decode cX5_ask 160 = .ok (.iconst 4, 1) := by decide +kernel
theorem dX5_ask_161 : decode cX5_ask 161 = .ok (.iadd, 1) := by decide +kernel
theorem dX5_ask_162 : decode cX5_ask 162 = .ok (.iload 5, 2) := by decide +kernel
theorem dX5_ask_164 : decode cX5_ask 164 = .ok (.ifCond .ne 7, 3) := by decide +kernel
theorem dX5_ask_167 : decode cX5_ask 167 = .ok (.iconst 0, 1) := by decide +kernel
theorem dX5_ask_168 : decode cX5_ask 168 = .ok (.goto 15, 3) := by decide +kernel
theorem dX5_ask_171 : decode cX5_ask 171 = .ok (.iload 4, 2) := by decide +kernel
theorem dX5_ask_173 : decode cX5_ask 173 = .ok (.bipush (-9), 2) := by decide +kernel
theorem dX5_ask_175 : decode cX5_ask 175 = .ok (.if_icmp .ne 7, 3) := by decide +kernel
theorem dX5_ask_178 : decode cX5_ask 178 = .ok (.iconst 1, 1) := by decide +kernel
theorem dX5_ask_179 : decode cX5_ask 179 = .ok (.goto 4, 3) := by decide +kernel
theorem dX5_ask_182 : decode cX5_ask 182 = .ok (.iconst 2, 1) := by decide +kernel
theorem dX5_ask_183 : decode cX5_ask 183 = .ok (.iastore, 1) := by decide +kernel
theorem dX5_ask_184 : decode cX5_ask 184 = .ok (.aload_n 0, 1) := by decide +kernel
theorem dX5_ask_185 : decode cX5_ask 185 = .ok (.getfield 47, 3) := by decide +kernel
theorem dX5_ask_188 : decode cX5_ask 188 = .ok (.bipush 6, 2) := by decide +kernel
theorem dX5_ask_190 : decode cX5_ask 190 = .ok (.aload_n 0, 1) := by decide +kernel
theorem dX5_ask_191 : decode cX5_ask 191 = .ok (.getfield 120, 3) := by decide +kernel
theorem dX5_ask_194 : decode cX5_ask 194 = .ok (.imul, 1) := by decide +kernel
theorem dX5_ask_195 : decode cX5_ask 195 = .ok (.iconst 5, 1) := by decide +kernel
theorem dX5_ask_196 : decode cX5_ask 196 = .ok (.iadd, 1) := by decide +kernel
theorem dX5_ask_197 : decode cX5_ask 197 = .ok (.iload 5, 2) := by decide +kernel
theorem dX5_ask_199 : decode cX5_ask 199 = .ok (.ifCond .eq 8, 3) := by decide +kernel
theorem dX5_ask_202 : decode cX5_ask 202 = .ok (.iload 4, 2) := by decide +kernel
theorem dX5_ask_204 : decode cX5_ask 204 = .ok (.goto 5, 3) := by decide +kernel
theorem dX5_ask_207 : decode cX5_ask 207 = .ok (.bipush (-9), 2) := by decide +kernel
theorem dX5_ask_209 : decode cX5_ask 209 = .ok (.iastore, 1) := by decide +kernel
theorem dX5_ask_210 : decode cX5_ask 210 = .ok (.aload_n 0, 1) := by decide +kernel
theorem dX5_ask_211 : decode cX5_ask 211 = .ok (.dup, 1) := by decide +kernel
theorem dX5_ask_212 : decode cX5_ask 212 = .ok (.getfield 120, 3) := by decide +kernel
theorem dX5_ask_215 : decode cX5_ask 215 = .ok (.iconst 1, 1) := by decide +kernel
theorem dX5_ask_216 : decode cX5_ask 216 = .ok (.iadd, 1) := by decide +kernel
theorem dX5_ask_217 : decode cX5_ask 217 = .ok (.putfield 120, 3) := by decide +kernel
theorem dX5_ask_220 : decode cX5_ask 220 = .ok (.iload 5, 2) := by decide +kernel
theorem dX5_ask_222 : decode cX5_ask 222 = .ok (.ifCond .eq 50, 3) := by decide +kernel
theorem dX5_ask_225 : decode cX5_ask 225 = .ok (.iload 4, 2) := by decide +kernel
theorem dX5_ask_227 : decode cX5_ask 227 = .ok (.bipush (-9), 2) := by decide +kernel
theorem dX5_ask_229 : decode cX5_ask 229 = .ok (.if_icmp .eq 12, 3) := by decide +kernel
theorem dX5_ask_232 : decode cX5_ask 232 = .ok (.aload_n 0, 1) := by decide +kernel
theorem dX5_ask_233 : decode cX5_ask 233 = .ok (.getfield 44, 3) := by decide +kernel
theorem dX5_ask_236 : decode cX5_ask 236 = .ok (.iload 4, 2) := by decide +kernel
theorem dX5_ask_238 : decode cX5_ask 238 = .ok (.bipush (-9), 2) := by decide +kernel
theorem dX5_ask_240 : decode cX5_ask 240 = .ok (.iastore, 1) := by decide +kernel
theorem dX5_ask_241 : decode cX5_ask 241 = .ok (.aload_n 0, 1) := by decide +kernel
theorem dX5_ask_242 : decode cX5_ask 242 = .ok (.getfield 35, 3) := by decide +kernel
theorem dX5_ask_245 : decode cX5_ask 245 = .ok (.iload_n 2, 1) := by decide +kernel
theorem dX5_ask_246 : decode cX5_ask 246 = .ok (.iload_n 1, 1) := by decide +kernel
theorem dX5_ask_247 : decode cX5_ask 247 = .ok (.iastore, 1) := by decide +kernel
theorem dX5_ask_248 : decode cX5_ask 248 = .ok (.aload_n 0, 1) := by decide +kernel
theorem dX5_ask_249 : decode cX5_ask 249 = .ok (.getfield 38, 3) := by decide +kernel
theorem dX5_ask_252 : decode cX5_ask 252 = .ok (.iload_n 2, 1) := by decide +kernel
theorem dX5_ask_253 : decode cX5_ask 253 = .ok (.iload_n 3, 1) := by decide +kernel
theorem dX5_ask_254 : decode cX5_ask 254 = .ok (.iastore, 1) := by decide +kernel
theorem dX5_ask_255 : decode cX5_ask 255 = .ok (.aload_n 0, 1) := by decide +kernel
theorem dX5_ask_256 : decode cX5_ask 256 = .ok (.getfield 41, 3) := by decide +kernel
theorem dX5_ask_259 : decode cX5_ask 259 = .ok (.iload_n 2, 1) := by decide +kernel
theorem dX5_ask_260 : decode cX5_ask 260 = .ok (.aload_n 0, 1) := by decide +kernel
theorem dX5_ask_261 : decode cX5_ask 261 = .ok (.getfield 117, 3) := by decide +kernel
theorem dX5_ask_264 : decode cX5_ask 264 = .ok (.iastore, 1) := by decide +kernel
theorem dX5_ask_265 : decode cX5_ask 265 = .ok (.aload_n 0, 1) := by decide +kernel
theorem dX5_ask_266 : decode cX5_ask 266 = .ok (.getfield 44, 3) := by decide +kernel
theorem dX5_ask_269 : decode cX5_ask 269 = .ok (.iload_n 1, 1) := by decide +kernel
theorem dX5_ask_270 : decode cX5_ask 270 = .ok (.iload_n 2, 1) := by decide +kernel
theorem dX5_ask_271 : decode cX5_ask 271 = .ok (.iastore, 1) := by decide +kernel
theorem dX5_ask_272 : decode cX5_ask 272 = .ok (.return_, 1) := by decide +kernel
