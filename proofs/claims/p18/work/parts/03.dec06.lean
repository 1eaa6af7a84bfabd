theorem dX12_takes_296 : decode cX12_takes 296 = .ok (.bipush (-21), 2) := by decide +kernel
theorem dX12_takes_298 : decode cX12_takes 298 = .ok (.ireturn, 1) := by decide +kernel
theorem dX12_takes_299 : decode cX12_takes 299 = .ok (.aload_n 0, 1) := by decide +kernel
theorem dX12_takes_300 : decode cX12_takes 300 = .ok (.getfield 115, 3) := by decide +kernel
theorem dX12_takes_303 : decode cX12_takes 303 = .ok (.iload 6, 2) := by decide +kernel
theorem dX12_takes_305 : decode cX12_takes 305 = .ok (.iadd, 1) := by decide +kernel
theorem dX12_takes_306 : decode cX12_takes 306 = .ok (.iconst 1, 1) := by decide +kernel
theorem dX12_takes_307 : decode cX12_takes 307 = .ok (.iadd, 1) := by decide +kernel
theorem dX12_takes_308 : decode cX12_takes 308 = .ok (.sipush 200, 3) := by decide +kernel
theorem dX12_takes_311 : decode cX12_takes 311 = .ok (.if_icmp .le 6, 3) := by decide +kernel
theorem dX12_takes_314 : decode cX12_takes 314 = .ok (.bipush (-6), 2) := by decide +kernel
theorem dX12_takes_316 : decode cX12_takes 316 = .ok (.ireturn, 1) := by decide +kernel
theorem dX12_takes_317 : decode cX12_takes 317 = .ok (.iload_n 2, 1) := by decide +kernel
theorem dX12_takes_318 : decode cX12_takes 318 = .ok (.ifCond .eq 21, 3) := by decide +kernel
theorem dX12_takes_321 : decode cX12_takes 321 = .ok (.aload_n 0, 1) := by decide +kernel
theorem dX12_takes_322 : decode cX12_takes 322 = .ok (.iload_n 1, 1) := by decide +kernel
theorem dX12_takes_323 : decode cX12_takes 323 = .ok (.iload 5, 2) := by decide +kernel
theorem dX12_takes_325 : decode cX12_takes 325 = .ok (.iload 6, 2) := by decide +kernel
theorem dX12_takes_327 : decode cX12_takes 327 = .ok (.iload 7, 2) := by decide +kernel
theorem dX12_takes_329 : decode cX12_takes 329 = .ok (.iload 9, 2) := by decide +kernel
theorem dX12_takes_331 : decode cX12_takes 331 = .ok (.iload 10, 2) := by decide +kernel
theorem dX12_takes_333 : decode cX12_takes 333 = .ok (.invokevirtual 223, 3) := by decide +kernel
theorem dX12_takes_336 : decode cX12_takes 336 = .ok (.goto 4, 3) := by decide +kernel
theorem dX12_takes_339 : decode cX12_takes 339 = .ok (.iconst 0, 1) := by decide +kernel
theorem dX12_takes_340 : decode cX12_takes 340 = .ok (.ireturn, 1) := by decide +kernel
theorem dX12_note_0 : decode cX12_note 0 = .ok (.iload_n 3, 1) := by decide +kernel
theorem dX12_note_1 : decode cX12_note 1 = .ok (.ifCond .eq 20, 3) := by decide +kernel
theorem dX12_note_4 : decode cX12_note 4 = .ok (.aload_n 0, 1) := by decide +kernel
theorem dX12_note_5 : decode cX12_note 5 = .ok (.getfield 38, 3) := by decide +kernel
theorem dX12_note_8 : decode cX12_note 8 = .ok (.iload_n 1, 1) := by decide +kernel
theorem dX12_note_9 : decode cX12_note 9 = .ok (.iload_n 2, 1) := by decide +kernel
theorem dX12_note_10 : decode cX12_note 10 = .ok (.iastore, 1) := by decide +kernel
theorem dX12_note_11 : decode cX12_note 11 = .ok (.aload_n 0, 1) := by decide +kernel
theorem dX12_note_12 : decode cX12_note 12 = .ok (.dup, 1) := by decide +kernel
theorem dX12_note_13 : decode cX12_note 13 = .ok (.getfield 227, 3) := by decide +kernel
theorem dX12_note_16 : decode cX12_note 16 = .ok (.iconst 1, 1) := by decide +kernel
theorem dX12_note_17 : decode cX12_note 17 = .ok (.iadd, 1) := by decide +kernel
theorem dX12_note_18 : decode cX12_note 18 = .ok (.putfield 227, 3) := by decide +kernel
theorem dX12_note_21 : decode cX12_note 21 = .ok (.return_, 1) := by decide +kernel
theorem dX12_comes_0 : decode cX12_comes 0 = .ok (.aload_n 0, 1) := by decide +kernel
theorem dX12_comes_1 : decode cX12_comes 1 = .ok (.getfield 66, 3) := by decide +kernel
theorem dX12_comes_4 : decode cX12_comes 4 = .ok (.iload_n 1, 1) := by decide +kernel
theorem dX12_comes_5 : decode cX12_comes 5 = .ok (.iaload, 1) := by decide +kernel
theorem dX12_comes_6 : decode cX12_comes 6 = .ok (.istore 7, 2) := by decide +kernel
theorem dX12_comes_8 : decode cX12_comes 8 = .ok (.aload_n 0, 1) := by decide +kernel
theorem dX12_comes_9 : decode cX12_comes 9 = .ok (.getfield 48, 3) := by decide +kernel
theorem dX12_comes_12 : decode cX12_comes 12 = .ok (.iload 7, 2) := by decide +kernel
theorem dX12_comes_14 : decode cX12_comes 14 = .ok (.iaload, 1) := by decide +kernel
theorem dX12_comes_15 : decode cX12_comes 15 = .ok (.iconst 1, 1) := by decide +kernel
theorem dX12_comes_16 : decode cX12_comes 16 = .ok (.isub, 1) := by decide +kernel
theorem dX12_comes_17 : decode cX12_comes 17 = .ok (.istore 8, 2) := by decide +kernel
theorem dX12_comes_19 : decode cX12_comes 19 = .ok (.iload_n 2, 1) := by decide +kernel
theorem dX12_comes_20 : decode cX12_comes 20 = .ok (.istore 9, 2) := by decide +kernel
theorem dX12_comes_22 : decode cX12_comes 22 = .ok (.iload 8, 2) := by decide +kernel
theorem dX12_comes_24 : decode cX12_comes 24 = .ok (.iload_n 3, 1) := by decide +kernel
theorem dX12_comes_25 : decode cX12_comes 25 = .ok (.isub, 1) := by decide +kernel
theorem dX12_comes_26 : decode cX12_comes 26 = .ok (.istore 10, 2) := by decide +kernel
theorem dX12_comes_28 : decode cX12_comes 28 = .ok (.iload 10, 2) := by decide +kernel
theorem dX12_comes_30 : decode cX12_comes 30 = .ok (.iload 8, 2) := by decide +kernel
theorem dX12_comes_32 : decode cX12_comes 32 = .ok (.if_icmp .ge 26, 3) := by decide +kernel
theorem dX12_comes_35 : decode cX12_comes 35 = .ok (.aload_n 0, 1) := by decide +kernel
theorem dX12_comes_36 : decode cX12_comes 36 = .ok (.iload 7, 2) := by decide +kernel
theorem dX12_comes_38 : decode cX12_comes 38 = .ok (.iload 10, 2) := by decide +kernel
theorem dX12_comes_40 : decode cX12_comes 40 = .ok (.invokevirtual 189, 3) := by decide +kernel
theorem dX12_comes_43 : decode cX12_comes 43 = .ok (.aload_n 0, 1) := by decide +kernel
theorem dX12_comes_44 : decode cX12_comes 44 = .ok (.iconst 0, 1) := by decide +kernel
theorem dX12_comes_45 : decode cX12_comes 45 = .ok (.iload 9, 2) := by decide +kernel
theorem dX12_comes_47 : decode cX12_comes 47 = .ok (.invokevirtual 99, 3) := by decide +kernel
theorem dX12_comes_50 : decode cX12_comes 50 = .ok (.istore 9, 2) := by decide +kernel
theorem dX12_comes_52 : decode cX12_comes 52 = .ok (.iinc 10 1, 3) := by decide +kernel
theorem dX12_comes_55 : decode cX12_comes 55 = .ok (.goto (-27), 3) := by decide +kernel
theorem dX12_comes_58 : decode cX12_comes 58 = .ok (.aload_n 0, 1) := by decide +kernel
theorem dX12_comes_59 : decode cX12_comes 59 = .ok (.iload 7, 2) := by decide +kernel
theorem dX12_comes_61 : decode cX12_comes 61 = .ok (.iload 8, 2) := by decide +kernel
theorem dX12_comes_63 : decode cX12_comes 63 = .ok (.invokevirtual 189, 3) := by decide +kernel
theorem dX12_comes_66 : decode cX12_comes 66 = .ok (.aload_n 0, 1) := by decide +kernel
theorem dX12_comes_67 : decode cX12_comes 67 = .ok (.getfield 63, 3) := by decide +kernel
theorem dX12_comes_70 : decode cX12_comes 70 = .ok (.iload_n 1, 1) := by decide +kernel
theorem dX12_comes_71 : decode cX12_comes 71 = .ok (.iaload, 1) := by decide +kernel
theorem dX12_comes_72 : decode cX12_comes 72 = .ok (.istore 10, 2) := by decide +kernel
theorem dX12_comes_74 : decode cX12_comes 74 = .ok (.aload_n 0, 1) := by decide +kernel
theorem dX12_comes_75 : decode cX12_comes 75 = .ok (.iload 10, 2) := by decide +kernel
theorem dX12_comes_77 : decode cX12_comes 77 = .ok (.ifCond .ne 7, 3) := by decide +kernel
theorem dX12_comes_80 : decode cX12_comes 80 = .ok (.iconst 0, 1) := by decide +kernel
theorem dX12_comes_81 : decode cX12_comes 81 = .ok (.goto 14, 3) := by decide +kernel
theorem dX12_comes_84 : decode cX12_comes 84 = .ok (.iload 10, 2) := by decide +kernel
theorem dX12_comes_86 : decode cX12_comes 86 = .ok (.iconst 2, 1) := by decide +kernel
theorem dX12_comes_87 : decode cX12_comes 87 = .ok (.if_icmp .ne 7, 3) := by decide +kernel
theorem dX12_comes_90 : decode cX12_comes 90 = .ok (.iconst 2, 1) := by decide +kernel
theorem dX12_comes_91 : decode cX12_comes 91 = .ok (.goto 4, 3) := by decide +kernel
theorem dX12_comes_94 : decode cX12_comes 94 = .ok (.iconst 1, 1) := by decide +kernel
theorem dX12_comes_95 : decode cX12_comes 95 = .ok (.iload 9, 2) := by decide +kernel
theorem dX12_comes_97 : decode cX12_comes 97 = .ok (.invokevirtual 99, 3) := by decide +kernel
theorem dX12_comes_100 : decode cX12_comes 100 = .ok (.istore 11, 2) := by decide +kernel
theorem dX12_comes_102 : decode cX12_comes 102 = .ok (.aload_n 0, 1) := by decide +kernel
theorem dX12_comes_103 : decode cX12_comes 103 = .ok (.dup, 1) := by decide +kernel
theorem dX12_comes_104 : decode cX12_comes 104 = .ok (.getfield 217, 3) := by decide +kernel
theorem dX12_comes_107 : decode cX12_comes 107 = .ok (.iload_n 3, 1) := by decide +kernel
theorem dX12_comes_108 : decode cX12_comes 108 = .ok (.iconst 1, 1) := by decide +kernel
theorem dX12_comes_109 : decode cX12_comes 109 = .ok (.iadd, 1) := by decide +kernel
theorem dX12_comes_110 : decode cX12_comes 110 = .ok (.iadd, 1) := by decide +kernel
theorem dX12_comes_111 : decode cX12_comes 111 = .ok (.putfield 217, 3) := by decide +kernel
theorem dX12_comes_114 : decode cX12_comes 114 = .ok (.iload 4, 2) := by decide +kernel
theorem dX12_comes_116 : decode cX12_comes 116 = .ok (.iconst (-1), 1) := by decide +kernel
theorem dX12_comes_117 : decode cX12_comes 117 = .ok (.if_icmp .eq 11, 3) := by decide +kernel
theorem dX12_comes_120 : decode cX12_comes 120 = .ok (.aload_n 0, 1) := by decide +kernel
theorem dX12_comes_121 : decode cX12_comes 121 = .ok (.getfield 23, 3) := by decide +kernel
theorem dX12_comes_124 : decode cX12_comes 124 = .ok (.iload 4, 2) := by decide +kernel
theorem dX12_comes_126 : decode cX12_comes 126 = .ok (.iconst 1, 1) := by decide +kernel
theorem dX12_comes_127 : decode cX12_comes 127 = .ok (.bastore, 1) := by decide +kernel
theorem dX12_comes_128 : decode cX12_comes 128 = .ok (.iload 10, 2) := by decide +kernel
theorem dX12_comes_130 : decode cX12_comes 130 = .ok (.ifCond .ne 19, 3) := by decide +kernel
theorem dX12_comes_133 : decode cX12_comes 133 = .ok (.aload_n 0, 1) := by decide +kernel
theorem dX12_comes_134 : decode cX12_comes 134 = .ok (.iload 11, 2) := by decide +kernel
theorem dX12_comes_136 : decode cX12_comes 136 = .ok (.aload_n 0, 1) := by decide +kernel
theorem dX12_comes_137 : decode cX12_comes 137 = .ok (.getfield 69, 3) := by decide +kernel
theorem dX12_comes_140 : decode cX12_comes 140 = .ok (.iload_n 1, 1) := by decide +kernel
theorem dX12_comes_141 : decode cX12_comes 141 = .ok (.iaload, 1) := by decide +kernel
theorem dX12_comes_142 : decode cX12_comes 142 = .ok (.iconst 1, 1) := by decide +kernel
theorem dX12_comes_143 : decode cX12_comes 143 = .ok (.invokevirtual 206, 3) := by decide +kernel
theorem dX12_comes_146 : decode cX12_comes 146 = .ok (.goto 118, 3) := by decide +kernel
theorem dX12_comes_149 : decode cX12_comes 149 = .ok (.iload 10, 2) := by decide +kernel
theorem dX12_comes_151 : decode cX12_comes 151 = .ok (.iconst 1, 1) := by decide +kernel
theorem dX12_comes_152 : decode cX12_comes 152 = .ok (.if_icmp .ne 72, 3) := by decide +kernel
theorem dX12_comes_155 : decode cX12_comes 155 = .ok (.aload_n 0, 1) := by decide +kernel
theorem dX12_comes_156 : decode cX12_comes 156 = .ok (.getfield 29, 3) := by decide +kernel
theorem dX12_comes_159 : decode cX12_comes 159 = .ok (.iload 11, 2) := by decide +kernel
theorem dX12_comes_161 : decode cX12_comes 161 = .ok (.aload_n 0, 1) := by decide +kernel
theorem dX12_comes_162 : decode cX12_comes 162 = .ok (.getfield 112, 3) := by decide +kernel
theorem dX12_comes_165 : decode cX12_comes 165 = .ok (.iastore, 1) := by decide +kernel
theorem dX12_comes_166 : decode cX12_comes 166 = .ok (.aload_n 0, 1) := by decide +kernel
theorem dX12_comes_167 : decode cX12_comes 167 = .ok (.getfield 41, 3) := by decide +kernel
theorem dX12_comes_170 : decode cX12_comes 170 = .ok (.aload_n 0, 1) := by decide +kernel
theorem dX12_comes_171 : decode cX12_comes 171 = .ok (.getfield 112, 3) := by decide +kernel
theorem dX12_comes_174 : decode cX12_comes 174 = .ok (.aload_n 0, 1) := by decide +kernel
theorem dX12_comes_175 : decode cX12_comes 175 = .ok (.getfield 72, 3) := by decide +kernel
theorem dX12_comes_178 : decode cX12_comes 178 = .ok (.iload_n 1, 1) := by decide +kernel
theorem dX12_comes_179 : decode cX12_comes 179 = .ok (.laload, 1) := by decide +kernel
theorem dX12_comes_180 : decode cX12_comes 180 = .ok (.lastore, 1) := by decide +kernel
theorem dX12_comes_181 : decode cX12_comes 181 = .ok (.aload_n 0, 1) := by decide +kernel
theorem dX12_comes_182 : decode cX12_comes 182 = .ok (.getfield 45, 3) := by decide +kernel
theorem dX12_comes_185 : decode cX12_comes 185 = .ok (.aload_n 0, 1) := by decide +kernel
theorem dX12_comes_186 : decode cX12_comes 186 = .ok (.getfield 112, 3) := by decide +kernel
theorem dX12_comes_189 : decode cX12_comes 189 = .ok (.aload_n 0, 1) := by decide +kernel
theorem dX12_comes_190 : decode cX12_comes 190 = .ok (.getfield 69, 3) := by decide +kernel
theorem dX12_comes_193 : decode cX12_comes 193 = .ok (.iload_n 1, 1) := by decide +kernel
theorem dX12_comes_194 : decode cX12_comes 194 = .ok (.iaload, 1) := by decide +kernel
theorem dX12_comes_195 : decode cX12_comes 195 = .ok (.iastore, 1) := by decide +kernel
theorem dX12_comes_196 : decode cX12_comes 196 = .ok (.aload_n 0, 1) := by decide +kernel
theorem dX12_comes_197 : decode cX12_comes 197 = .ok (.dup, 1) := by decide +kernel
theorem dX12_comes_198 : decode cX12_comes 198 = .ok (.getfield 112, 3) := by decide +kernel
theorem dX12_comes_201 : decode cX12_comes 201 = .ok (.iconst 1, 1) := by decide +kernel
theorem dX12_comes_202 : decode cX12_comes 202 = .ok (.iadd, 1) := by decide +kernel
theorem dX12_comes_203 : decode cX12_comes 203 = .ok (.putfield 112, 3) := by decide +kernel
theorem dX12_comes_206 : decode cX12_comes 206 = .ok (.aload_n 0, 1) := by decide +kernel
theorem dX12_comes_207 : decode cX12_comes 207 = .ok (.dup, 1) := by decide +kernel
theorem dX12_comes_208 : decode cX12_comes 208 = .ok (.getfield 220, 3) := by decide +kernel
theorem dX12_comes_211 : decode cX12_comes 211 = .ok (.aload_n 0, 1) := by decide +kernel
theorem dX12_comes_212 : decode cX12_comes 212 = .ok (.getfield 72, 3) := by decide +kernel
theorem dX12_comes_215 : decode cX12_comes 215 = .ok (.iload_n 1, 1) := by decide +kernel
theorem dX12_comes_216 : decode cX12_comes 216 = .ok (.laload, 1) := by decide +kernel
theorem dX12_comes_217 : decode cX12_comes 217 = .ok (.ladd, 1) := by decide +kernel
theorem dX12_comes_218 : decode cX12_comes 218 = .ok (.putfield 220, 3) := by decide +kernel
theorem dX12_comes_221 : decode cX12_comes 221 = .ok (.goto 43, 3) := by decide +kernel
theorem dX12_comes_224 : decode cX12_comes 224 = .ok (.iload 10, 2) := by decide +kernel
theorem dX12_comes_226 : decode cX12_comes 226 = .ok (.iconst 2, 1) := by decide +kernel
theorem dX12_comes_227 : decode cX12_comes 227 = .ok (.if_icmp .ne 28, 3) := by decide +kernel
theorem dX12_comes_230 : decode cX12_comes 230 = .ok (.aload_n 0, 1) := by decide +kernel
theorem dX12_comes_231 : decode cX12_comes 231 = .ok (.getfield 29, 3) := by decide +kernel
theorem dX12_comes_234 : decode cX12_comes 234 = .ok (.iload 11, 2) := by decide +kernel
theorem dX12_comes_236 : decode cX12_comes 236 = .ok (.aload_n 0, 1) := by decide +kernel
theorem dX12_comes_237 : decode cX12_comes 237 = .ok (.getfield 69, 3) := by decide +kernel
theorem dX12_comes_240 : decode cX12_comes 240 = .ok (.iload_n 1, 1) := by decide +kernel
theorem dX12_comes_241 : decode cX12_comes 241 = .ok (.iaload, 1) := by decide +kernel
theorem dX12_comes_242 : decode cX12_comes 242 = .ok (.iastore, 1) := by decide +kernel
theorem dX12_comes_243 : decode cX12_comes 243 = .ok (.aload_n 0, 1) := by decide +kernel
theorem dX12_comes_244 : decode cX12_comes 244 = .ok (.getfield 20, 3) := by decide +kernel
theorem dX12_comes_247 : decode cX12_comes 247 = .ok (.iload 11, 2) := by decide +kernel
theorem dX12_comes_249 : decode cX12_comes 249 = .ok (.iload 5, 2) := by decide +kernel
theorem dX12_comes_251 : decode cX12_comes 251 = .ok (.bastore, 1) := by decide +kernel
theorem dX12_comes_252 : decode cX12_comes 252 = .ok (.goto 12, 3) := by decide +kernel
theorem dX12_comes_255 : decode cX12_comes 255 = .ok (.aload_n 0, 1) := by decide +kernel
theorem dX12_comes_256 : decode cX12_comes 256 = .ok (.getfield 29, 3) := by decide +kernel
theorem dX12_comes_259 : decode cX12_comes 259 = .ok (.iload 11, 2) := by decide +kernel
theorem dX12_comes_261 : decode cX12_comes 261 = .ok (.iload 6, 2) := by decide +kernel
theorem dX12_comes_263 : decode cX12_comes 263 = .ok (.iastore, 1) := by decide +kernel
theorem dX12_comes_264 : decode cX12_comes 264 = .ok (.iload 11, 2) := by decide +kernel
theorem dX12_comes_266 : decode cX12_comes 266 = .ok (.ireturn, 1) := by decide +kernel
theorem dX12_isEntry_0 : decode cX12_isEntry 0 = .ok (.iload_n 1, 1) := by decide +kernel
theorem dX12_isEntry_1 : decode cX12_isEntry 1 = .ok (.ifCond .lt 15, 3) := by decide +kernel
theorem dX12_isEntry_4 : decode cX12_isEntry 4 = .ok (.iload_n 1, 1) := by decide +kernel
theorem dX12_isEntry_5 : decode cX12_isEntry 5 = .ok (.aload_n 0, 1) := by decide +kernel
theorem dX12_isEntry_6 : decode cX12_isEntry 6 = .ok (.getfield 183, 3) := by decide +kernel
theorem dX12_isEntry_9 : decode cX12_isEntry 9 = .ok (.if_icmp .ge 7, 3) := by decide +kernel
theorem dX12_isEntry_12 : decode cX12_isEntry 12 = .ok (.iconst 1, 1) := by decide +kernel
theorem dX12_isEntry_13 : decode cX12_isEntry 13 = .ok (.goto 4, 3) := by decide +kernel
theorem dX12_isEntry_16 : decode cX12_isEntry 16 = .ok (.iconst 0, 1) := by decide +kernel
theorem dX12_isEntry_17 : decode cX12_isEntry 17 = .ok (.ireturn, 1) := by decide +kernel
theorem dX12_take_0 : decode cX12_take 0 = .ok (.aload_n 0, 1) := by decide +kernel
theorem dX12_take_1 : decode cX12_take 1 = .ok (.iload_n 1, 1) := by decide +kernel
theorem dX12_take_2 : decode cX12_take 2 = .ok (.invokevirtual 230, 3) := by decide +kernel
theorem dX12_take_5 : decode cX12_take 5 = .ok (.ifCond .eq 12, 3) := by decide +kernel
theorem dX12_take_8 : decode cX12_take 8 = .ok (.aload_n 0, 1) := by decide +kernel
theorem dX12_take_9 : decode cX12_take 9 = .ok (.iload_n 1, 1) := by decide +kernel
theorem dX12_take_10 : decode cX12_take 10 = .ok (.iconst 1, 1) := by decide +kernel
theorem dX12_take_11 : decode cX12_take 11 = .ok (.invokevirtual 233, 3) := by decide +kernel
theorem dX12_take_14 : decode cX12_take 14 = .ok (.goto 5, 3) := by decide +kernel
theorem dX12_take_17 : decode cX12_take 17 = .ok (.bipush (-7), 2) := by decide +kernel
theorem dX12_take_19 : decode cX12_take 19 = .ok (.ireturn, 1) := by decide +kernel
theorem dX12_dry_0 : decode cX12_dry 0 = .ok (.aload_n 0, 1) := by decide +kernel
theorem dX12_dry_1 : decode cX12_dry 1 = .ok (.iload_n 1, 1) := by decide +kernel
theorem dX12_dry_2 : decode cX12_dry 2 = .ok (.invokevirtual 230, 3) := by decide +kernel
theorem dX12_dry_5 : decode cX12_dry 5 = .ok (.ifCond .ne 6, 3) := by decide +kernel
theorem dX12_dry_8 : decode cX12_dry 8 = .ok (.bipush (-7), 2) := by decide +kernel
theorem dX12_dry_10 : decode cX12_dry 10 = .ok (.ireturn, 1) := by decide +kernel
theorem dX12_dry_11 : decode cX12_dry 11 = .ok (.aload_n 0, 1) := by decide +kernel
theorem dX12_dry_12 : decode cX12_dry 12 = .ok (.iload_n 1, 1) := by decide +kernel
theorem dX12_dry_13 : decode cX12_dry 13 = .ok (.iconst 0, 1) := by decide +kernel
theorem dX12_dry_14 : decode cX12_dry 14 = .ok (.invokevirtual 233, 3) := by decide +kernel
theorem dX12_dry_17 : decode cX12_dry 17 = .ok (.istore_n 2, 1) := by decide +kernel
theorem dX12_dry_18 : decode cX12_dry 18 = .ok (.iload_n 2, 1) := by decide +kernel
theorem dX12_dry_19 : decode cX12_dry 19 = .ok (.ifCond .le 7, 3) := by decide +kernel
theorem dX12_dry_22 : decode cX12_dry 22 = .ok (.iconst 0, 1) := by decide +kernel
theorem dX12_dry_23 : decode cX12_dry 23 = .ok (.goto 4, 3) := by decide +kernel
theorem dX12_dry_26 : decode cX12_dry 26 = .ok (.iload_n 2, 1) := by decide +kernel
theorem dX12_dry_27 : decode cX12_dry 27 = .ok (.ireturn, 1) := by decide +kernel
theorem dX12_finish_0 : decode cX12_finish 0 = .ok (.iconst 0, 1) := by decide +kernel
theorem dX12_finish_1 : decode cX12_finish 1 = .ok (.istore_n 1, 1) := by decide +kernel
theorem dX12_finish_2 : decode cX12_finish 2 = .ok (.iconst 0, 1) := by decide +kernel
theorem dX12_finish_3 : decode cX12_finish 3 = .ok (.istore_n 2, 1) := by decide +kernel
theorem dX12_finish_4 : decode cX12_finish 4 = .ok (.iload_n 2, 1) := by decide +kernel
theorem dX12_finish_5 : decode cX12_finish 5 = .ok (.aload_n 0, 1) := by decide +kernel
theorem dX12_finish_6 : decode cX12_finish 6 = .ok (.getfield 115, 3) := by decide +kernel
theorem dX12_finish_9 : decode cX12_finish 9 = .ok (.if_icmp .ge 82, 3) := by decide +kernel
theorem dX12_finish_12 : decode cX12_finish 12 = .ok (.aload_n 0, 1) := by decide +kernel
theorem dX12_finish_13 : decode cX12_finish 13 = .ok (.getfield 38, 3) := by decide +kernel
theorem dX12_finish_16 : decode cX12_finish 16 = .ok (.iload_n 2, 1) := by decide +kernel
theorem dX12_finish_17 : decode cX12_finish 17 = .ok (.iaload, 1) := by decide +kernel
theorem dX12_finish_18 : decode cX12_finish 18 = .ok (.iconst (-1), 1) := by decide +kernel
theorem dX12_finish_19 : decode cX12_finish 19 = .ok (.if_icmp .eq 31, 3) := by decide +kernel
theorem dX12_finish_22 : decode cX12_finish 22 = .ok (.aload_n 0, 1) := by decide +kernel
theorem dX12_finish_23 : decode cX12_finish 23 = .ok (.getfield 16, 3) := by decide +kernel
theorem dX12_finish_26 : decode cX12_finish 26 = .ok (.iload_n 2, 1) := by decide +kernel
theorem dX12_finish_27 : decode cX12_finish 27 = .ok (.aload_n 0, 1) := by decide +kernel
theorem dX12_finish_28 : decode cX12_finish 28 = .ok (.getfield 38, 3) := by decide +kernel
theorem dX12_finish_31 : decode cX12_finish 31 = .ok (.iload_n 2, 1) := by decide +kernel
theorem dX12_finish_32 : decode cX12_finish 32 = .ok (.iaload, 1) := by decide +kernel
theorem dX12_finish_33 : decode cX12_finish 33 = .ok (.iconst 1, 1) := by decide +kernel
theorem dX12_finish_34 : decode cX12_finish 34 = .ok (.if_icmp .ne 7, 3) := by decide +kernel
theorem dX12_finish_37 : decode cX12_finish 37 = .ok (.iconst 1, 1) := by decide +kernel
theorem dX12_finish_38 : decode cX12_finish 38 = .ok (.goto 4, 3) := by decide +kernel
theorem dX12_finish_41 : decode cX12_finish 41 = .ok (.iconst 0, 1) := by decide +kernel
theorem dX12_finish_42 : decode cX12_finish 42 = .ok (.bastore, 1) := by decide +kernel
theorem dX12_finish_43 : decode cX12_finish 43 = .ok (.aload_n 0, 1) := by decide +kernel
theorem dX12_finish_44 : decode cX12_finish 44 = .ok (.getfield 38, 3) := by decide +kernel
theorem dX12_finish_47 : decode cX12_finish 47 = .ok (.iload_n 2, 1) := by decide +kernel
theorem dX12_finish_48 : decode cX12_finish 48 = .ok (.iconst (-1), 1) := by decide +kernel
theorem dX12_finish_49 : decode cX12_finish 49 = .ok (.iastore, 1) := by decide +kernel
theorem dX12_finish_50 : decode cX12_finish 50 = .ok (.iload_n 1, 1) := by decide +kernel
theorem dX12_finish_51 : decode cX12_finish 51 = .ok (.aload_n 0, 1) := by decide +kernel
theorem dX12_finish_52 : decode cX12_finish 52 = .ok (.getfield 23, 3) := by decide +kernel
theorem dX12_finish_55 : decode cX12_finish 55 = .ok (.iload_n 2, 1) := by decide +kernel
theorem dX12_finish_56 : decode cX12_finish 56 = .ok (.baload, 1) := by decide +kernel
theorem dX12_finish_57 : decode cX12_finish 57 = .ok (.ifCond .ne 25, 3) := by decide +kernel
theorem dX12_finish_60 : decode cX12_finish 60 = .ok (.aload_n 0, 1) := by decide +kernel
theorem dX12_finish_61 : decode cX12_finish 61 = .ok (.getfield 13, 3) := by decide +kernel
theorem dX12_finish_64 : decode cX12_finish 64 = .ok (.iload_n 2, 1) := by decide +kernel
theorem dX12_finish_65 : decode cX12_finish 65 = .ok (.iaload, 1) := by decide +kernel
theorem dX12_finish_66 : decode cX12_finish 66 = .ok (.ifCond .ne 16, 3) := by decide +kernel
theorem dX12_finish_69 : decode cX12_finish 69 = .ok (.aload_n 0, 1) := by decide +kernel
theorem dX12_finish_70 : decode cX12_finish 70 = .ok (.getfield 16, 3) := by decide +kernel
theorem dX12_finish_73 : decode cX12_finish 73 = .ok (.iload_n 2, 1) := by decide +kernel
theorem dX12_finish_74 : decode cX12_finish 74 = .ok (.baload, 1) := by decide +kernel
theorem dX12_finish_75 : decode cX12_finish 75 = .ok (.ifCond .eq 7, 3) := by decide +kernel
theorem dX12_finish_78 : decode cX12_finish 78 = .ok (.iconst 1, 1) := by decide +kernel
theorem dX12_finish_79 : decode cX12_finish 79 = .ok (.goto 4, 3) := by decide +kernel
theorem dX12_finish_82 : decode cX12_finish 82 = .ok (.iconst 0, 1) := by decide +kernel
theorem dX12_finish_83 : decode cX12_finish 83 = .ok (.iadd, 1) := by decide +kernel
theorem dX12_finish_84 : decode cX12_finish 84 = .ok (.istore_n 1, 1) := by decide +kernel
theorem dX12_finish_85 : decode cX12_finish 85 = .ok (.iinc 2 1, 3) := by decide +kernel
theorem dX12_finish_88 : decode cX12_finish 88 = .ok (.goto (-84), 3) := by decide +kernel
theorem dX12_finish_91 : decode cX12_finish 91 = .ok (.aload_n 0, 1) := by decide +kernel
theorem dX12_finish_92 : decode cX12_finish 92 = .ok (.iconst 0, 1) := by decide +kernel
theorem dX12_finish_93 : decode cX12_finish 93 = .ok (.putfield 227, 3) := by decide +kernel
theorem dX12_finish_96 : decode cX12_finish 96 = .ok (.iload_n 1, 1) := by decide +kernel
theorem dX12_finish_97 : decode cX12_finish 97 = .ok (.ireturn, 1) := by decide +kernel
theorem dX12_limit_0 : decode cX12_limit 0 = .ok (.iload_n 1, 1) := by decide +kernel
theorem dX12_limit_1 : decode cX12_limit 1 = .ok (.ifCond .lt 14, 3) := by decide +kernel
theorem dX12_limit_4 : decode cX12_limit 4 = .ok (.iload_n 1, 1) := by decide +kernel
theorem dX12_limit_5 : decode cX12_limit 5 = .ok (.iconst 1, 1) := by decide +kernel
theorem dX12_limit_6 : decode cX12_limit 6 = .ok (.if_icmp .gt 9, 3) := by decide +kernel
theorem dX12_limit_9 : decode cX12_limit 9 = .ok (.lload_n 2, 1) := by decide +kernel
theorem dX12_limit_10 : decode cX12_limit 10 = .ok (.lconst 0, 1) := by decide +kernel
theorem dX12_limit_11 : decode cX12_limit 11 = .ok (.lcmp, 1) := by decide +kernel
theorem dX12_limit_12 : decode cX12_limit 12 = .ok (.ifCond .ge 7, 3) := by decide +kernel
theorem dX12_limit_15 : decode cX12_limit 15 = .ok (.ldc2_w 236, 3) := by decide +kernel
theorem dX12_limit_18 : decode cX12_limit 18 = .ok (.lreturn, 1) := by decide +kernel
theorem dX12_limit_19 : decode cX12_limit 19 = .ok (.iload_n 1, 1) := by decide +kernel
theorem dX12_limit_20 : decode cX12_limit 20 = .ok (.ifCond .ne 10, 3) := by decide +kernel
theorem dX12_limit_23 : decode cX12_limit 23 = .ok (.aload_n 0, 1) := by decide +kernel
theorem dX12_limit_24 : decode cX12_limit 24 = .ok (.getfield 77, 3) := by decide +kernel
theorem dX12_limit_27 : decode cX12_limit 27 = .ok (.goto 7, 3) := by decide +kernel
theorem dX12_limit_30 : decode cX12_limit 30 = .ok (.aload_n 0, 1) := by decide +kernel
theorem dX12_limit_31 : decode cX12_limit 31 = .ok (.getfield 83, 3) := by decide +kernel
theorem dX12_limit_34 : decode cX12_limit 34 = .ok (.lstore 4, 2) := by decide +kernel
theorem dX12_limit_36 : decode cX12_limit 36 = .ok (.aload_n 0, 1) := by decide +kernel
theorem dX12_limit_37 : decode cX12_limit 37 = .ok (.iload_n 1, 1) := by decide +kernel
theorem dX12_limit_38 : decode cX12_limit 38 = .ok (.ifCond .ne 7, 3) := by decide +kernel
theorem dX12_limit_41 : decode cX12_limit 41 = .ok (.lload_n 2, 1) := by decide +kernel
theorem dX12_limit_42 : decode cX12_limit 42 = .ok (.goto 7, 3) := by decide +kernel
theorem dX12_limit_45 : decode cX12_limit 45 = .ok (.aload_n 0, 1) := by decide +kernel
theorem dX12_limit_46 : decode cX12_limit 46 = .ok (.getfield 77, 3) := by decide +kernel
theorem dX12_limit_49 : decode cX12_limit 49 = .ok (.putfield 77, 3) := by decide +kernel
theorem dX12_limit_52 : decode cX12_limit 52 = .ok (.aload_n 0, 1) := by decide +kernel
theorem dX12_limit_53 : decode cX12_limit 53 = .ok (.iload_n 1, 1) := by decide +kernel
theorem dX12_limit_54 : decode cX12_limit 54 = .ok (.iconst 1, 1) := by decide +kernel
theorem dX12_limit_55 : decode cX12_limit 55 = .ok (.if_icmp .ne 7, 3) := by decide +kernel
theorem dX12_limit_58 : decode cX12_limit 58 = .ok (.lload_n 2, 1) := by decide +kernel
theorem dX12_limit_59 : decode cX12_limit 59 = .ok (.goto 7, 3) := by decide +kernel
theorem dX12_limit_62 : decode cX12_limit 62 = .ok (.aload_n 0, 1) := by decide +kernel
theorem dX12_limit_63 : decode cX12_limit 63 = .ok (.getfield 83, 3) := by decide +kernel
theorem dX12_limit_66 : decode cX12_limit 66 = .ok (.putfield 83, 3) := by decide +kernel
theorem dX12_limit_69 : decode cX12_limit 69 = .ok (.lload 4, 2) := by decide +kernel
theorem dX12_limit_71 : decode cX12_limit 71 = .ok (.lreturn, 1) := by decide +kernel
theorem dX12_find_0 : decode cX12_find 0 = .ok (.aload_n 0, 1) := by decide +kernel
theorem dX12_find_1 : decode cX12_find 1 = .ok (.iload_n 1, 1) := by decide +kernel
theorem dX12_find_2 : decode cX12_find 2 = .ok (.invokevirtual 149, 3) := by decide +kernel
theorem dX12_find_5 : decode cX12_find 5 = .ok (.ifCond .ne 6, 3) := by decide +kernel
theorem dX12_find_8 : decode cX12_find 8 = .ok (.bipush (-7), 2) := by decide +kernel
theorem dX12_find_10 : decode cX12_find 10 = .ok (.ireturn, 1) := by decide +kernel
theorem dX12_find_11 : decode cX12_find 11 = .ok (.iconst 1, 1) := by decide +kernel
theorem dX12_find_12 : decode cX12_find 12 = .ok (.istore_n 2, 1) := by decide +kernel
theorem dX12_find_13 : decode cX12_find 13 = .ok (.iconst 0, 1) := by decide +kernel
theorem dX12_find_14 : decode cX12_find 14 = .ok (.istore_n 3, 1) := by decide +kernel
theorem dX12_find_15 : decode cX12_find 15 = .ok (.iload_n 3, 1) := by decide +kernel
theorem dX12_find_16 : decode cX12_find 16 = .ok (.aload_n 0, 1) := by decide +kernel
theorem dX12_find_17 : decode cX12_find 17 = .ok (.getfield 48, 3) := by decide +kernel
theorem dX12_find_20 : decode cX12_find 20 = .ok (.iload_n 1, 1) := by decide +kernel
theorem dX12_find_21 : decode cX12_find 21 = .ok (.iaload, 1) := by decide +kernel
theorem dX12_find_22 : decode cX12_find 22 = .ok (.if_icmp .ge 47, 3) := by decide +kernel
theorem dX12_find_25 : decode cX12_find 25 = .ok (.aload_n 0, 1) := by decide +kernel
theorem dX12_find_26 : decode cX12_find 26 = .ok (.iload_n 1, 1) := by decide +kernel
theorem dX12_find_27 : decode cX12_find 27 = .ok (.iload_n 3, 1) := by decide +kernel
theorem dX12_find_28 : decode cX12_find 28 = .ok (.invokevirtual 189, 3) := by decide +kernel
theorem dX12_find_31 : decode cX12_find 31 = .ok (.aload_n 0, 1) := by decide +kernel
theorem dX12_find_32 : decode cX12_find 32 = .ok (.getfield 13, 3) := by decide +kernel
theorem dX12_find_35 : decode cX12_find 35 = .ok (.iload_n 2, 1) := by decide +kernel
theorem dX12_find_36 : decode cX12_find 36 = .ok (.iaload, 1) := by decide +kernel
theorem dX12_find_37 : decode cX12_find 37 = .ok (.ifCond .ne 11, 3) := by decide +kernel
theorem dX12_find_40 : decode cX12_find 40 = .ok (.aload_n 0, 1) := by decide +kernel
theorem dX12_find_41 : decode cX12_find 41 = .ok (.iload_n 2, 1) := by decide +kernel
theorem dX12_find_42 : decode cX12_find 42 = .ok (.invokevirtual 171, 3) := by decide +kernel
theorem dX12_find_45 : decode cX12_find 45 = .ok (.goto 4, 3) := by decide +kernel
theorem dX12_find_48 : decode cX12_find 48 = .ok (.iconst (-1), 1) := by decide +kernel
theorem dX12_find_49 : decode cX12_find 49 = .ok (.istore 4, 2) := by decide +kernel
theorem dX12_find_51 : decode cX12_find 51 = .ok (.iload 4, 2) := by decide +kernel
theorem dX12_find_53 : decode cX12_find 53 = .ok (.iconst (-1), 1) := by decide +kernel
theorem dX12_find_54 : decode cX12_find 54 = .ok (.if_icmp .ne 6, 3) := by decide +kernel
theorem dX12_find_57 : decode cX12_find 57 = .ok (.bipush (-2), 2) := by decide +kernel
theorem dX12_find_59 : decode cX12_find 59 = .ok (.ireturn, 1) := by decide +kernel
theorem dX12_find_60 : decode cX12_find 60 = .ok (.iload 4, 2) := by decide +kernel
theorem dX12_find_62 : decode cX12_find 62 = .ok (.istore_n 2, 1) := by decide +kernel
theorem dX12_find_63 : decode cX12_find 63 = .ok (.iinc 3 1, 3) := by decide +kernel
theorem dX12_find_66 : decode cX12_find 66 = .ok (.goto (-51), 3) := by decide +kernel
theorem dX12_find_69 : decode cX12_find 69 = .ok (.iload_n 2, 1) := by decide +kernel
theorem dX12_find_70 : decode cX12_find 70 = .ok (.ireturn, 1) := by decide +kernel
theorem dX12_node_0 : decode cX12_node 0 = .ok (.iload_n 1, 1) := by decide +kernel
theorem dX12_node_1 : decode cX12_node 1 = .ok (.ifCond .lt 20, 3) := by decide +kernel
theorem dX12_node_4 : decode cX12_node 4 = .ok (.iload_n 1, 1) := by decide +kernel
theorem dX12_node_5 : decode cX12_node 5 = .ok (.aload_n 0, 1) := by decide +kernel
theorem dX12_node_6 : decode cX12_node 6 = .ok (.getfield 115, 3) := by decide +kernel
theorem dX12_node_9 : decode cX12_node 9 = .ok (.if_icmp .ge 12, 3) := by decide +kernel
theorem dX12_node_12 : decode cX12_node 12 = .ok (.iload_n 2, 1) := by decide +kernel
theorem dX12_node_13 : decode cX12_node 13 = .ok (.ifCond .lt 8, 3) := by decide +kernel
theorem dX12_node_16 : decode cX12_node 16 = .ok (.iload_n 2, 1) := by decide +kernel
theorem dX12_node_17 : decode cX12_node 17 = .ok (.iconst 3, 1) := by decide +kernel
theorem dX12_node_18 : decode cX12_node 18 = .ok (.if_icmp .le 6, 3) := by decide +kernel
theorem dX12_node_21 : decode cX12_node 21 = .ok (.bipush (-7), 2) := by decide +kernel
theorem dX12_node_23 : decode cX12_node 23 = .ok (.ireturn, 1) := by decide +kernel
theorem dX12_node_24 : decode cX12_node 24 = .ok (.iload_n 2, 1) := by decide +kernel
theorem dX12_node_25 : decode cX12_node 25 = .ok (.ifCond .ne 71, 3) := by decide +kernel
theorem dX12_node_28 : decode cX12_node 28 = .ok (.aload_n 0, 1) := by decide +kernel
theorem dX12_node_29 : decode cX12_node 29 = .ok (.getfield 23, 3) := by decide +kernel
theorem dX12_node_32 : decode cX12_node 32 = .ok (.iload_n 1, 1) := by decide +kernel
theorem dX12_node_33 : decode cX12_node 33 = .ok (.baload, 1) := by decide +kernel
theorem dX12_node_34 : decode cX12_node 34 = .ok (.ifCond .eq 7, 3) := by decide +kernel
theorem dX12_node_37 : decode cX12_node 37 = .ok (.iconst (-1), 1) := by decide +kernel
theorem dX12_node_38 : decode cX12_node 38 = .ok (.goto 57, 3) := by decide +kernel
theorem dX12_node_41 : decode cX12_node 41 = .ok (.aload_n 0, 1) := by decide +kernel
theorem dX12_node_42 : decode cX12_node 42 = .ok (.getfield 13, 3) := by decide +kernel
theorem dX12_node_45 : decode cX12_node 45 = .ok (.iload_n 1, 1) := by decide +kernel
theorem dX12_node_46 : decode cX12_node 46 = .ok (.iaload, 1) := by decide +kernel
theorem dX12_node_47 : decode cX12_node 47 = .ok (.ifCond .ne 20, 3) := by decide +kernel
theorem dX12_node_50 : decode cX12_node 50 = .ok (.aload_n 0, 1) := by decide +kernel
theorem dX12_node_51 : decode cX12_node 51 = .ok (.getfield 16, 3) := by decide +kernel
theorem dX12_node_54 : decode cX12_node 54 = .ok (.iload_n 1, 1) := by decide +kernel
theorem dX12_node_55 : decode cX12_node 55 = .ok (.baload, 1) := by decide +kernel
theorem dX12_node_56 : decode cX12_node 56 = .ok (.ifCond .eq 7, 3) := by decide +kernel
theorem dX12_node_59 : decode cX12_node 59 = .ok (.iconst 1, 1) := by decide +kernel
theorem dX12_node_60 : decode cX12_node 60 = .ok (.goto 35, 3) := by decide +kernel
theorem dX12_node_63 : decode cX12_node 63 = .ok (.iconst 0, 1) := by decide +kernel
theorem dX12_node_64 : decode cX12_node 64 = .ok (.goto 31, 3) := by decide +kernel
theorem dX12_node_67 : decode cX12_node 67 = .ok (.aload_n 0, 1) := by decide +kernel
theorem dX12_node_68 : decode cX12_node 68 = .ok (.getfield 13, 3) := by decide +kernel
theorem dX12_node_71 : decode cX12_node 71 = .ok (.iload_n 1, 1) := by decide +kernel
theorem dX12_node_72 : decode cX12_node 72 = .ok (.iaload, 1) := by decide +kernel
theorem dX12_node_73 : decode cX12_node 73 = .ok (.iconst 1, 1) := by decide +kernel
theorem dX12_node_74 : decode cX12_node 74 = .ok (.if_icmp .ne 7, 3) := by decide +kernel
theorem dX12_node_77 : decode cX12_node 77 = .ok (.iconst 2, 1) := by decide +kernel
theorem dX12_node_78 : decode cX12_node 78 = .ok (.goto 17, 3) := by decide +kernel
theorem dX12_node_81 : decode cX12_node 81 = .ok (.aload_n 0, 1) := by decide +kernel
theorem dX12_node_82 : decode cX12_node 82 = .ok (.getfield 20, 3) := by decide +kernel
theorem dX12_node_85 : decode cX12_node 85 = .ok (.iload_n 1, 1) := by decide +kernel
theorem dX12_node_86 : decode cX12_node 86 = .ok (.baload, 1) := by decide +kernel
theorem dX12_node_87 : decode cX12_node 87 = .ok (.ifCond .eq 7, 3) := by decide +kernel
theorem dX12_node_90 : decode cX12_node 90 = .ok (.iconst 4, 1) := by decide +kernel
theorem dX12_node_91 : decode cX12_node 91 = .ok (.goto 4, 3) := by decide +kernel
theorem dX12_node_94 : decode cX12_node 94 = .ok (.iconst 3, 1) := by decide +kernel
theorem dX12_node_95 : decode cX12_node 95 = .ok (.ireturn, 1) := by decide +kernel
theorem dX12_node_96 : decode cX12_node 96 = .ok (.iload_n 2, 1) := by decide +kernel
theorem dX12_node_97 : decode cX12_node 97 = .ok (.iconst 1, 1) := by decide +kernel
theorem dX12_node_98 : decode cX12_node 98 = .ok (.if_icmp .ne 10, 3) := by decide +kernel
theorem dX12_node_101 : decode cX12_node 101 = .ok (.aload_n 0, 1) := by decide +kernel
theorem dX12_node_102 : decode cX12_node 102 = .ok (.getfield 26, 3) := by decide +kernel
theorem dX12_node_105 : decode cX12_node 105 = .ok (.iload_n 1, 1) := by decide +kernel
theorem dX12_node_106 : decode cX12_node 106 = .ok (.iaload, 1) := by decide +kernel
theorem dX12_node_107 : decode cX12_node 107 = .ok (.ireturn, 1) := by decide +kernel
theorem dX12_node_108 : decode cX12_node 108 = .ok (.iload_n 2, 1) := by decide +kernel
theorem dX12_node_109 : decode cX12_node 109 = .ok (.iconst 3, 1) := by decide +kernel
theorem dX12_node_110 : decode cX12_node 110 = .ok (.if_icmp .ne 10, 3) := by decide +kernel
theorem dX12_node_113 : decode cX12_node 113 = .ok (.aload_n 0, 1) := by decide +kernel
theorem dX12_node_114 : decode cX12_node 114 = .ok (.getfield 32, 3) := by decide +kernel
theorem dX12_node_117 : decode cX12_node 117 = .ok (.iload_n 1, 1) := by decide +kernel
theorem dX12_node_118 : decode cX12_node 118 = .ok (.iaload, 1) := by decide +kernel
theorem dX12_node_119 : decode cX12_node 119 = .ok (.ireturn, 1) := by decide +kernel
theorem dX12_node_120 : decode cX12_node 120 = .ok (.aload_n 0, 1) := by decide +kernel
theorem dX12_node_121 : decode cX12_node 121 = .ok (.getfield 23, 3) := by decide +kernel
theorem dX12_node_124 : decode cX12_node 124 = .ok (.iload_n 1, 1) := by decide +kernel
theorem dX12_node_125 : decode cX12_node 125 = .ok (.baload, 1) := by decide +kernel
theorem dX12_node_126 : decode cX12_node 126 = .ok (.ifCond .eq 5, 3) := by decide +kernel
theorem dX12_node_129 : decode cX12_node 129 = .ok (.iconst (-1), 1) := by decide +kernel
theorem dX12_node_130 : decode cX12_node 130 = .ok (.ireturn, 1) := by decide +kernel
theorem dX12_node_131 : decode cX12_node 131 = .ok (.aload_n 0, 1) := by decide +kernel
theorem dX12_node_132 : decode cX12_node 132 = .ok (.getfield 13, 3) := by decide +kernel
theorem dX12_node_135 : decode cX12_node 135 = .ok (.iload_n 1, 1) := by decide +kernel
theorem dX12_node_136 : decode cX12_node 136 = .ok (.iaload, 1) := by decide +kernel
theorem dX12_node_137 : decode cX12_node 137 = .ok (.ifCond .eq 10, 3) := by decide +kernel
theorem dX12_node_140 : decode cX12_node 140 = .ok (.aload_n 0, 1) := by decide +kernel
theorem dX12_node_141 : decode cX12_node 141 = .ok (.getfield 29, 3) := by decide +kernel
theorem dX12_node_144 : decode cX12_node 144 = .ok (.iload_n 1, 1) := by decide +kernel
theorem dX12_node_145 : decode cX12_node 145 = .ok (.iaload, 1) := by decide +kernel
theorem dX12_node_146 : decode cX12_node 146 = .ok (.ireturn, 1) := by decide +kernel
theorem dX12_node_147 : decode cX12_node 147 = .ok (.iconst 0, 1) := by decide +kernel
theorem dX12_node_148 : decode cX12_node 148 = .ok (.istore_n 3, 1) := by decide +kernel
theorem dX12_node_149 : decode cX12_node 149 = .ok (.iconst 1, 1) := by decide +kernel
theorem dX12_node_150 : decode cX12_node 150 = .ok (.istore 4, 2) := by decide +kernel
theorem dX12_node_152 : decode cX12_node 152 = .ok (.iload 4, 2) := by decide +kernel
theorem dX12_node_154 : decode cX12_node 154 = .ok (.aload_n 0, 1) := by decide +kernel
theorem dX12_node_155 : decode cX12_node 155 = .ok (.getfield 115, 3) := by decide +kernel
theorem dX12_node_158 : decode cX12_node 158 = .ok (.if_icmp .ge 38, 3) := by decide +kernel
theorem dX12_node_161 : decode cX12_node 161 = .ok (.iload_n 3, 1) := by decide +kernel
theorem dX12_node_162 : decode cX12_node 162 = .ok (.aload_n 0, 1) := by decide +kernel
theorem dX12_node_163 : decode cX12_node 163 = .ok (.getfield 23, 3) := by decide +kernel
theorem dX12_node_166 : decode cX12_node 166 = .ok (.iload 4, 2) := by decide +kernel
theorem dX12_node_168 : decode cX12_node 168 = .ok (.baload, 1) := by decide +kernel
theorem dX12_node_169 : decode cX12_node 169 = .ok (.ifCond .ne 18, 3) := by decide +kernel
theorem dX12_node_172 : decode cX12_node 172 = .ok (.aload_n 0, 1) := by decide +kernel
theorem dX12_node_173 : decode cX12_node 173 = .ok (.getfield 26, 3) := by decide +kernel
theorem dX12_node_176 : decode cX12_node 176 = .ok (.iload 4, 2) := by decide +kernel
theorem dX12_node_178 : decode cX12_node 178 = .ok (.iaload, 1) := by decide +kernel
theorem dX12_node_179 : decode cX12_node 179 = .ok (.iload_n 1, 1) := by decide +kernel
theorem dX12_node_180 : decode cX12_node 180 = .ok (.if_icmp .ne 7, 3) := by decide +kernel
theorem dX12_node_183 : decode cX12_node 183 = .ok (.iconst 1, 1) := by decide +kernel
theorem dX12_node_184 : decode cX12_node 184 = .ok (.goto 4, 3) := by decide +kernel
theorem dX12_node_187 : decode cX12_node 187 = .ok (.iconst 0, 1) := by decide +kernel
theorem dX12_node_188 : decode cX12_node 188 = .ok (.iadd, 1) := by decide +kernel
theorem dX12_node_189 : decode cX12_node 189 = .ok (.istore_n 3, 1) := by decide +kernel
theorem dX12_node_190 : decode cX12_node 190 = .ok (.iinc 4 1, 3) := by decide +kernel
theorem dX12_node_193 : decode cX12_node 193 = .ok (.goto (-41), 3) := by decide +kernel
theorem dX12_node_196 : decode cX12_node 196 = .ok (.iload_n 3, 1) := by decide +kernel
theorem dX12_node_197 : decode cX12_node 197 = .ok (.ireturn, 1) := by decide +kernel
theorem dX12_name_0 : decode cX12_name 0 = .ok (.iload_n 1, 1) := by decide +kernel
theorem dX12_name_1 : decode cX12_name 1 = .ok (.ifCond .lt 39, 3) := by decide +kernel
theorem dX12_name_4 : decode cX12_name 4 = .ok (.iload_n 1, 1) := by decide +kernel
theorem dX12_name_5 : decode cX12_name 5 = .ok (.aload_n 0, 1) := by decide +kernel
theorem dX12_name_6 : decode cX12_name 6 = .ok (.getfield 115, 3) := by decide +kernel
theorem dX12_name_9 : decode cX12_name 9 = .ok (.if_icmp .ge 31, 3) := by decide +kernel
theorem dX12_name_12 : decode cX12_name 12 = .ok (.iload_n 2, 1) := by decide +kernel
theorem dX12_name_13 : decode cX12_name 13 = .ok (.ifCond .lt 27, 3) := by decide +kernel
theorem dX12_name_16 : decode cX12_name 16 = .ok (.iload_n 2, 1) := by decide +kernel
theorem dX12_name_17 : decode cX12_name 17 = .ok (.aload_n 0, 1) := by decide +kernel
theorem dX12_name_18 : decode cX12_name 18 = .ok (.getfield 32, 3) := by decide +kernel
theorem dX12_name_21 : decode cX12_name 21 = .ok (.iload_n 1, 1) := by decide +kernel
theorem dX12_name_22 : decode cX12_name 22 = .ok (.iaload, 1) := by decide +kernel
theorem dX12_name_23 : decode cX12_name 23 = .ok (.if_icmp .ge 17, 3) := by decide +kernel
theorem dX12_name_26 : decode cX12_name 26 = .ok (.aload_n 0, 1) := by decide +kernel
theorem dX12_name_27 : decode cX12_name 27 = .ok (.getfield 35, 3) := by decide +kernel
theorem dX12_name_30 : decode cX12_name 30 = .ok (.bipush 16, 2) := by decide +kernel
theorem dX12_name_32 : decode cX12_name 32 = .ok (.iload_n 1, 1) := by decide +kernel
theorem dX12_name_33 : decode cX12_name 33 = .ok (.imul, 1) := by decide +kernel
theorem dX12_name_34 : decode cX12_name 34 = .ok (.iload_n 2, 1) := by decide +kernel
theorem dX12_name_35 : decode cX12_name 35 = .ok (.iadd, 1) := by decide +kernel
theorem dX12_name_36 : decode cX12_name 36 = .ok (.iaload, 1) := by decide +kernel
theorem dX12_name_37 : decode cX12_name 37 = .ok (.goto 4, 3) := by decide +kernel
theorem dX12_name_40 : decode cX12_name 40 = .ok (.iconst (-1), 1) := by decide +kernel
theorem dX12_name_41 : decode cX12_name 41 = .ok (.ireturn, 1) := by decide +kernel
theorem dX12_body_0 : decode cX12_body 0 = .ok (.iload_n 1, 1) := by decide +kernel
theorem dX12_body_1 : decode cX12_body 1 = .ok (.ifCond .lt 20, 3) := by decide +kernel
theorem dX12_body_4 : decode cX12_body 4 = .ok (.iload_n 1, 1) := by decide +kernel
theorem dX12_body_5 : decode cX12_body 5 = .ok (.aload_n 0, 1) := by decide +kernel
theorem dX12_body_6 : decode cX12_body 6 = .ok (.getfield 112, 3) := by decide +kernel
theorem dX12_body_9 : decode cX12_body 9 = .ok (.if_icmp .ge 12, 3) := by decide +kernel
theorem dX12_body_12 : decode cX12_body 12 = .ok (.iload_n 2, 1) := by decide +kernel
theorem dX12_body_13 : decode cX12_body 13 = .ok (.ifCond .lt 8, 3) := by decide +kernel
theorem dX12_body_16 : decode cX12_body 16 = .ok (.iload_n 2, 1) := by decide +kernel
theorem dX12_body_17 : decode cX12_body 17 = .ok (.iconst 2, 1) := by decide +kernel
theorem dX12_body_18 : decode cX12_body 18 = .ok (.if_icmp .le 7, 3) := by decide +kernel
theorem dX12_body_21 : decode cX12_body 21 = .ok (.ldc2_w 236, 3) := by decide +kernel
theorem dX12_body_24 : decode cX12_body 24 = .ok (.lreturn, 1) := by decide +kernel
theorem dX12_body_25 : decode cX12_body 25 = .ok (.iload_n 2, 1) := by decide +kernel
theorem dX12_body_26 : decode cX12_body 26 = .ok (.iconst 2, 1) := by decide +kernel
theorem dX12_body_27 : decode cX12_body 27 = .ok (.if_icmp .ge 24, 3) := by decide +kernel
theorem dX12_body_30 : decode cX12_body 30 = .ok (.iload_n 2, 1) := by decide +kernel
theorem dX12_body_31 : decode cX12_body 31 = .ok (.ifCond .ne 12, 3) := by decide +kernel
theorem dX12_body_34 : decode cX12_body 34 = .ok (.aload_n 0, 1) := by decide +kernel
theorem dX12_body_35 : decode cX12_body 35 = .ok (.getfield 41, 3) := by decide +kernel
theorem dX12_body_38 : decode cX12_body 38 = .ok (.iload_n 1, 1) := by decide +kernel
theorem dX12_body_39 : decode cX12_body 39 = .ok (.laload, 1) := by decide +kernel
theorem dX12_body_40 : decode cX12_body 40 = .ok (.goto 10, 3) := by decide +kernel
theorem dX12_body_43 : decode cX12_body 43 = .ok (.aload_n 0, 1) := by decide +kernel
theorem dX12_body_44 : decode cX12_body 44 = .ok (.getfield 45, 3) := by decide +kernel
theorem dX12_body_47 : decode cX12_body 47 = .ok (.iload_n 1, 1) := by decide +kernel
theorem dX12_body_48 : decode cX12_body 48 = .ok (.iaload, 1) := by decide +kernel
theorem dX12_body_49 : decode cX12_body 49 = .ok (.i2l, 1) := by decide +kernel
theorem dX12_body_50 : decode cX12_body 50 = .ok (.lreturn, 1) := by decide +kernel
theorem dX12_body_51 : decode cX12_body 51 = .ok (.lconst 0, 1) := by decide +kernel
theorem dX12_body_52 : decode cX12_body 52 = .ok (.lstore_n 3, 1) := by decide +kernel
theorem dX12_body_53 : decode cX12_body 53 = .ok (.iconst 0, 1) := by decide +kernel
theorem dX12_body_54 : decode cX12_body 54 = .ok (.istore 5, 2) := by decide +kernel
theorem dX12_body_56 : decode cX12_body 56 = .ok (.iload 5, 2) := by decide +kernel
theorem dX12_body_58 : decode cX12_body 58 = .ok (.aload_n 0, 1) := by decide +kernel
theorem dX12_body_59 : decode cX12_body 59 = .ok (.getfield 115, 3) := by decide +kernel
theorem dX12_body_62 : decode cX12_body 62 = .ok (.if_icmp .ge 49, 3) := by decide +kernel
theorem dX12_body_65 : decode cX12_body 65 = .ok (.lload_n 3, 1) := by decide +kernel
theorem dX12_body_66 : decode cX12_body 66 = .ok (.aload_n 0, 1) := by decide +kernel
theorem dX12_body_67 : decode cX12_body 67 = .ok (.getfield 23, 3) := by decide +kernel
theorem dX12_body_70 : decode cX12_body 70 = .ok (.iload 5, 2) := by decide +kernel
theorem dX12_body_72 : decode cX12_body 72 = .ok (.baload, 1) := by decide +kernel
theorem dX12_body_73 : decode cX12_body 73 = .ok (.ifCond .ne 29, 3) := by decide +kernel
theorem dX12_body_76 : decode cX12_body 76 = .ok (.aload_n 0, 1) := by decide +kernel
theorem dX12_body_77 : decode cX12_body 77 = .ok (.getfield 13, 3) := by decide +kernel
theorem dX12_body_80 : decode cX12_body 80 = .ok (.iload 5, 2) := by decide +kernel
theorem dX12_body_82 : decode cX12_body 82 = .ok (.iaload, 1) := by decide +kernel
theorem dX12_body_83 : decode cX12_body 83 = .ok (.iconst 1, 1) := by decide +kernel
theorem dX12_body_84 : decode cX12_body 84 = .ok (.if_icmp .ne 18, 3) := by decide +kernel
theorem dX12_body_87 : decode cX12_body 87 = .ok (.aload_n 0, 1) := by decide +kernel
theorem dX12_body_88 : decode cX12_body 88 = .ok (.getfield 29, 3) := by decide +kernel
theorem dX12_body_91 : decode cX12_body 91 = .ok (.iload 5, 2) := by decide +kernel
theorem dX12_body_93 : decode cX12_body 93 = .ok (.iaload, 1) := by decide +kernel
theorem dX12_body_94 : decode cX12_body 94 = .ok (.iload_n 1, 1) := by decide +kernel
theorem dX12_body_95 : decode cX12_body 95 = .ok (.if_icmp .ne 7, 3) := by decide +kernel
theorem dX12_body_98 : decode cX12_body 98 = .ok (.lconst 1, 1) := by decide +kernel
theorem dX12_body_99 : decode cX12_body 99 = .ok (.goto 4, 3) := by decide +kernel
theorem dX12_body_102 : decode cX12_body 102 = .ok (.lconst 0, 1) := by decide +kernel
theorem dX12_body_103 : decode cX12_body 103 = .ok (.ladd, 1) := by decide +kernel
theorem dX12_body_104 : decode cX12_body 104 = .ok (.lstore_n 3, 1) := by decide +kernel
theorem dX12_body_105 : decode cX12_body 105 = .ok (.iinc 5 1, 3) := by decide +kernel
theorem dX12_body_108 : decode cX12_body 108 = .ok (.goto (-52), 3) := by decide +kernel
theorem dX12_body_111 : decode cX12_body 111 = .ok (.lload_n 3, 1) := by decide +kernel
theorem dX12_body_112 : decode cX12_body 112 = .ok (.lreturn, 1) := by decide +kernel
theorem dX12_inside_0 : decode cX12_inside 0 = .ok (.aload_n 0, 1) := by decide +kernel
theorem dX12_inside_1 : decode cX12_inside 1 = .ok (.getfield 26, 3) := by decide +kernel
theorem dX12_inside_4 : decode cX12_inside 4 = .ok (.iconst 2, 1) := by decide +kernel
theorem dX12_inside_5 : decode cX12_inside 5 = .ok (.iaload, 1) := by decide +kernel
theorem dX12_inside_6 : decode cX12_inside 6 = .ok (.ifCond .ne 62, 3) := by decide +kernel
theorem dX12_inside_9 : decode cX12_inside 9 = .ok (.aload_n 0, 1) := by decide +kernel
theorem dX12_inside_10 : decode cX12_inside 10 = .ok (.getfield 16, 3) := by decide +kernel
theorem dX12_inside_13 : decode cX12_inside 13 = .ok (.iconst 2, 1) := by decide +kernel
theorem dX12_inside_14 : decode cX12_inside 14 = .ok (.baload, 1) := by decide +kernel
theorem dX12_inside_15 : decode cX12_inside 15 = .ok (.ifCond .ne 53, 3) := by decide +kernel
theorem dX12_inside_18 : decode cX12_inside 18 = .ok (.aload_n 0, 1) := by decide +kernel
theorem dX12_inside_19 : decode cX12_inside 19 = .ok (.getfield 16, 3) := by decide +kernel
theorem dX12_inside_22 : decode cX12_inside 22 = .ok (.iconst 0, 1) := by decide +kernel
theorem dX12_inside_23 : decode cX12_inside 23 = .ok (.baload, 1) := by decide +kernel
theorem dX12_inside_24 : decode cX12_inside 24 = .ok (.ifCond .ne 44, 3) := by decide +kernel
theorem dX12_inside_27 : decode cX12_inside 27 = .ok (.aload_n 0, 1) := by decide +kernel
theorem dX12_inside_28 : decode cX12_inside 28 = .ok (.getfield 23, 3) := by decide +kernel
theorem dX12_inside_31 : decode cX12_inside 31 = .ok (.iconst 3, 1) := by decide +kernel
theorem dX12_inside_32 : decode cX12_inside 32 = .ok (.baload, 1) := by decide +kernel
theorem dX12_inside_33 : decode cX12_inside 33 = .ok (.ifCond .ne 35, 3) := by decide +kernel
theorem dX12_inside_36 : decode cX12_inside 36 = .ok (.aload_n 0, 1) := by decide +kernel
theorem dX12_inside_37 : decode cX12_inside 37 = .ok (.getfield 26, 3) := by decide +kernel
theorem dX12_inside_40 : decode cX12_inside 40 = .ok (.iconst 3, 1) := by decide +kernel
theorem dX12_inside_41 : decode cX12_inside 41 = .ok (.iaload, 1) := by decide +kernel
theorem dX12_inside_42 : decode cX12_inside 42 = .ok (.iconst 2, 1) := by decide +kernel
theorem dX12_inside_43 : decode cX12_inside 43 = .ok (.if_icmp .ne 25, 3) := by decide +kernel
theorem dX12_inside_46 : decode cX12_inside 46 = .ok (.aload_n 0, 1) := by decide +kernel
theorem dX12_inside_47 : decode cX12_inside 47 = .ok (.getfield 29, 3) := by decide +kernel
theorem dX12_inside_50 : decode cX12_inside 50 = .ok (.iconst 3, 1) := by decide +kernel
theorem dX12_inside_51 : decode cX12_inside 51 = .ok (.iaload, 1) := by decide +kernel
theorem dX12_inside_52 : decode cX12_inside 52 = .ok (.ifCond .ne 16, 3) := by decide +kernel
theorem dX12_inside_55 : decode cX12_inside 55 = .ok (.aload_n 0, 1) := by decide +kernel
theorem dX12_inside_56 : decode cX12_inside 56 = .ok (.getfield 26, 3) := by decide +kernel
theorem dX12_inside_59 : decode cX12_inside 59 = .ok (.iconst 1, 1) := by decide +kernel
theorem dX12_inside_60 : decode cX12_inside 60 = .ok (.iaload, 1) := by decide +kernel
theorem dX12_inside_61 : decode cX12_inside 61 = .ok (.ifCond .ne 7, 3) := by decide +kernel
theorem dX12_inside_64 : decode cX12_inside 64 = .ok (.iconst 1, 1) := by decide +kernel
theorem dX12_inside_65 : decode cX12_inside 65 = .ok (.goto 4, 3) := by decide +kernel
theorem dX12_inside_68 : decode cX12_inside 68 = .ok (.iconst 0, 1) := by decide +kernel
theorem dX12_inside_69 : decode cX12_inside 69 = .ok (.istore_n 1, 1) := by decide +kernel
theorem dX12_inside_70 : decode cX12_inside 70 = .ok (.iconst 4, 1) := by decide +kernel
theorem dX12_inside_71 : decode cX12_inside 71 = .ok (.istore_n 2, 1) := by decide +kernel
theorem dX12_inside_72 : decode cX12_inside 72 = .ok (.iload_n 2, 1) := by decide +kernel
theorem dX12_inside_73 : decode cX12_inside 73 = .ok (.aload_n 0, 1) := by decide +kernel
theorem dX12_inside_74 : decode cX12_inside 74 = .ok (.getfield 115, 3) := by decide +kernel
theorem dX12_inside_77 : decode cX12_inside 77 = .ok (.if_icmp .ge 34, 3) := by decide +kernel
theorem dX12_inside_80 : decode cX12_inside 80 = .ok (.iload_n 1, 1) := by decide +kernel
theorem dX12_inside_81 : decode cX12_inside 81 = .ok (.aload_n 0, 1) := by decide +kernel
theorem dX12_inside_82 : decode cX12_inside 82 = .ok (.getfield 23, 3) := by decide +kernel
theorem dX12_inside_85 : decode cX12_inside 85 = .ok (.iload_n 2, 1) := by decide +kernel
theorem dX12_inside_86 : decode cX12_inside 86 = .ok (.baload, 1) := by decide +kernel
theorem dX12_inside_87 : decode cX12_inside 87 = .ok (.ifCond .ne 11, 3) := by decide +kernel
theorem dX12_inside_90 : decode cX12_inside 90 = .ok (.aload_n 0, 1) := by decide +kernel
theorem dX12_inside_91 : decode cX12_inside 91 = .ok (.iload_n 2, 1) := by decide +kernel
theorem dX12_inside_92 : decode cX12_inside 92 = .ok (.invokevirtual 165, 3) := by decide +kernel
theorem dX12_inside_95 : decode cX12_inside 95 = .ok (.ifCond .eq 7, 3) := by decide +kernel
theorem dX12_inside_98 : decode cX12_inside 98 = .ok (.iconst 1, 1) := by decide +kernel
theorem dX12_inside_99 : decode cX12_inside 99 = .ok (.goto 4, 3) := by decide +kernel
theorem dX12_inside_102 : decode cX12_inside 102 = .ok (.iconst 0, 1) := by decide +kernel
theorem dX12_inside_103 : decode cX12_inside 103 = .ok (.iand, 1) := by decide +kernel
theorem dX12_inside_104 : decode cX12_inside 104 = .ok (.istore_n 1, 1) := by decide +kernel
theorem dX12_inside_105 : decode cX12_inside 105 = .ok (.iinc 2 1, 3) := by decide +kernel
theorem dX12_inside_108 : decode cX12_inside 108 = .ok (.goto (-36), 3) := by decide +kernel
theorem dX12_inside_111 : decode cX12_inside 111 = .ok (.iload_n 1, 1) := by decide +kernel
theorem dX12_inside_112 : decode cX12_inside 112 = .ok (.ireturn, 1) := by decide +kernel
theorem dX12_told_0 : decode cX12_told 0 = .ok (.iload_n 1, 1) := by decide +kernel
theorem dX12_told_1 : decode cX12_told 1 = .ok (.ifCond .lt 9, 3) := by decide +kernel
theorem dX12_told_4 : decode cX12_told 4 = .ok (.iload_n 1, 1) := by decide +kernel
theorem dX12_told_5 : decode cX12_told 5 = .ok (.bipush 7, 2) := by decide +kernel
theorem dX12_told_7 : decode cX12_told 7 = .ok (.if_icmp .le 6, 3) := by decide +kernel
theorem dX12_told_10 : decode cX12_told 10 = .ok (.bipush (-7), 2) := by decide +kernel
theorem dX12_told_12 : decode cX12_told 12 = .ok (.ireturn, 1) := by decide +kernel
theorem dX12_told_13 : decode cX12_told 13 = .ok (.iload_n 1, 1) := by decide +kernel
theorem dX12_told_14 : decode cX12_told 14 = .ok (.ifCond .ne 10, 3) := by decide +kernel
theorem dX12_told_17 : decode cX12_told 17 = .ok (.aload_n 0, 1) := by decide +kernel
theorem dX12_told_18 : decode cX12_told 18 = .ok (.getfield 115, 3) := by decide +kernel
theorem dX12_told_21 : decode cX12_told 21 = .ok (.goto 80, 3) := by decide +kernel
theorem dX12_told_24 : decode cX12_told 24 = .ok (.iload_n 1, 1) := by decide +kernel
theorem dX12_told_25 : decode cX12_told 25 = .ok (.iconst 1, 1) := by decide +kernel
theorem dX12_told_26 : decode cX12_told 26 = .ok (.if_icmp .ne 10, 3) := by decide +kernel
theorem dX12_told_29 : decode cX12_told 29 = .ok (.aload_n 0, 1) := by decide +kernel
theorem dX12_told_30 : decode cX12_told 30 = .ok (.getfield 112, 3) := by decide +kernel
theorem dX12_told_33 : decode cX12_told 33 = .ok (.goto 68, 3) := by decide +kernel
theorem dX12_told_36 : decode cX12_told 36 = .ok (.iload_n 1, 1) := by decide +kernel
theorem dX12_told_37 : decode cX12_told 37 = .ok (.iconst 2, 1) := by decide +kernel
theorem dX12_told_38 : decode cX12_told 38 = .ok (.if_icmp .ne 10, 3) := by decide +kernel
theorem dX12_told_41 : decode cX12_told 41 = .ok (.aload_n 0, 1) := by decide +kernel
theorem dX12_told_42 : decode cX12_told 42 = .ok (.getfield 146, 3) := by decide +kernel
theorem dX12_told_45 : decode cX12_told 45 = .ok (.goto 56, 3) := by decide +kernel
theorem dX12_told_48 : decode cX12_told 48 = .ok (.iload_n 1, 1) := by decide +kernel
theorem dX12_told_49 : decode cX12_told 49 = .ok (.iconst 3, 1) := by decide +kernel
theorem dX12_told_50 : decode cX12_told 50 = .ok (.if_icmp .ne 10, 3) := by decide +kernel
theorem dX12_told_53 : decode cX12_told 53 = .ok (.aload_n 0, 1) := by decide +kernel
theorem dX12_told_54 : decode cX12_told 54 = .ok (.getfield 152, 3) := by decide +kernel
theorem dX12_told_57 : decode cX12_told 57 = .ok (.goto 44, 3) := by decide +kernel
theorem dX12_told_60 : decode cX12_told 60 = .ok (.iload_n 1, 1) := by decide +kernel
theorem dX12_told_61 : decode cX12_told 61 = .ok (.iconst 4, 1) := by decide +kernel
theorem dX12_told_62 : decode cX12_told 62 = .ok (.if_icmp .ne 10, 3) := by decide +kernel
theorem dX12_told_65 : decode cX12_told 65 = .ok (.aload_n 0, 1) := by decide +kernel
theorem dX12_told_66 : decode cX12_told 66 = .ok (.getfield 183, 3) := by decide +kernel
theorem dX12_told_69 : decode cX12_told 69 = .ok (.goto 32, 3) := by decide +kernel
theorem dX12_told_72 : decode cX12_told 72 = .ok (.iload_n 1, 1) := by decide +kernel
theorem dX12_told_73 : decode cX12_told 73 = .ok (.iconst 5, 1) := by decide +kernel
theorem dX12_told_74 : decode cX12_told 74 = .ok (.if_icmp .ne 10, 3) := by decide +kernel
theorem dX12_told_77 : decode cX12_told 77 = .ok (.aload_n 0, 1) := by decide +kernel
theorem dX12_told_78 : decode cX12_told 78 = .ok (.getfield 217, 3) := by decide +kernel
theorem dX12_told_81 : decode cX12_told 81 = .ok (.goto 20, 3) := by decide +kernel
theorem dX12_told_84 : decode cX12_told 84 = .ok (.iload_n 1, 1) := by decide +kernel
theorem dX12_told_85 : decode cX12_told 85 = .ok (.bipush 6, 2) := by decide +kernel
theorem dX12_told_87 : decode cX12_told 87 = .ok (.if_icmp .ne 10, 3) := by decide +kernel
theorem dX12_told_90 : decode cX12_told 90 = .ok (.aload_n 0, 1) := by decide +kernel
theorem dX12_told_91 : decode cX12_told 91 = .ok (.getfield 203, 3) := by decide +kernel
theorem dX12_told_94 : decode cX12_told 94 = .ok (.goto 7, 3) := by decide +kernel
theorem dX12_told_97 : decode cX12_told 97 = .ok (.aload_n 0, 1) := by decide +kernel
theorem dX12_told_98 : decode cX12_told 98 = .ok (.getfield 227, 3) := by decide +kernel
theorem dX12_told_101 : decode cX12_told 101 = .ok (.ireturn, 1) := by decide +kernel
theorem dJ11_isValidCodePoint_9a6ad_0 : decode cJ11_isValidCodePoint_9a6ad 0 = .ok (.iload_n 0, 1) := by decide +kernel
theorem dJ11_isValidCodePoint_9a6ad_1 : decode cJ11_isValidCodePoint_9a6ad 1 = .ok (.bipush 16, 2) := by decide +kernel
theorem dJ11_isValidCodePoint_9a6ad_3 : decode cJ11_isValidCodePoint_9a6ad 3 = .ok (.iushr, 1) := by decide +kernel
theorem dJ11_isValidCodePoint_9a6ad_4 : decode cJ11_isValidCodePoint_9a6ad 4 = .ok (.istore_n 1, 1) := by decide +kernel
theorem dJ11_isValidCodePoint_9a6ad_5 : decode cJ11_isValidCodePoint_9a6ad 5 = .ok (.iload_n 1, 1) := by decide +kernel
theorem dJ11_isValidCodePoint_9a6ad_6 : decode cJ11_isValidCodePoint_9a6ad 6 = .ok (.bipush 17, 2) := by decide +kernel
theorem dJ11_isValidCodePoint_9a6ad_8 : decode cJ11_isValidCodePoint_9a6ad 8 = .ok (.if_icmp .ge 7, 3) := by decide +kernel
theorem dJ11_isValidCodePoint_9a6ad_11 : decode cJ11_isValidCodePoint_9a6ad 11 = .ok (.iconst 1, 1) := by decide +kernel
theorem dJ11_isValidCodePoint_9a6ad_12 : decode cJ11_isValidCodePoint_9a6ad 12 = .ok (.goto 4, 3) := by decide +kernel
theorem dJ11_isValidCodePoint_9a6ad_15 : decode cJ11_isValidCodePoint_9a6ad 15 = .ok (.iconst 0, 1) := by decide +kernel
theorem dJ11_isValidCodePoint_9a6ad_16 : decode cJ11_isValidCodePoint_9a6ad 16 = .ok (.ireturn, 1) := by decide +kernel
theorem dJ11_highSurrogate_5068e_0 : decode cJ11_highSurrogate_5068e 0 = .ok (.iload_n 0, 1) := by decide +kernel
theorem dJ11_highSurrogate_5068e_1 : decode cJ11_highSurrogate_5068e 1 = .ok (.bipush 10, 2) := by decide +kernel
theorem dJ11_highSurrogate_5068e_3 : decode cJ11_highSurrogate_5068e 3 = .ok (.iushr, 1) := by decide +kernel
theorem dJ11_highSurrogate_5068e_4 : decode cJ11_highSurrogate_5068e 4 = .ok (.ldc 110, 2) := by decide +kernel
theorem dJ11_highSurrogate_5068e_6 : decode cJ11_highSurrogate_5068e 6 = .ok (.iadd, 1) := by decide +kernel
theorem dJ11_highSurrogate_5068e_7 : decode cJ11_highSurrogate_5068e 7 = .ok (.i2c, 1) := by decide +kernel
theorem dJ11_highSurrogate_5068e_8 : decode cJ11_highSurrogate_5068e 8 = .ok (.ireturn, 1) := by decide +kernel
theorem dJ11_lowSurrogate_5068e_0 : decode cJ11_lowSurrogate_5068e 0 = .ok (.iload_n 0, 1) := by decide +kernel
theorem dJ11_lowSurrogate_5068e_1 : decode cJ11_lowSurrogate_5068e 1 = .ok (.sipush 1023, 3) := by decide +kernel
theorem dJ11_lowSurrogate_5068e_4 : decode cJ11_lowSurrogate_5068e 4 = .ok (.iand, 1) := by decide +kernel
theorem dJ11_lowSurrogate_5068e_5 : decode cJ11_lowSurrogate_5068e 5 = .ok (.ldc 76, 2) := by decide +kernel
theorem dJ11_lowSurrogate_5068e_7 : decode cJ11_lowSurrogate_5068e 7 = .ok (.iadd, 1) := by decide +kernel
theorem dJ11_lowSurrogate_5068e_8 : decode cJ11_lowSurrogate_5068e 8 = .ok (.i2c, 1) := by decide +kernel
theorem dJ11_lowSurrogate_5068e_9 : decode cJ11_lowSurrogate_5068e 9 = .ok (.ireturn, 1) := by decide +kernel
theorem dJ9_max_7cf53_0 : decode cJ9_max_7cf53 0 = .ok (.iload_n 0, 1) := by decide +kernel
theorem dJ9_max_7cf53_1 : decode cJ9_max_7cf53 1 = .ok (.iload_n 1, 1) := by decide +kernel
theorem dJ9_max_7cf53_2 : decode cJ9_max_7cf53 2 = .ok (.if_icmp .lt 7, 3) := by decide +kernel
theorem dJ9_max_7cf53_5 : decode cJ9_max_7cf53 5 = .ok (.iload_n 0, 1) := by decide +kernel
theorem dJ9_max_7cf53_6 : decode cJ9_max_7cf53 6 = .ok (.goto 4, 3) := by decide +kernel
theorem dJ9_max_7cf53_9 : decode cJ9_max_7cf53 9 = .ok (.iload_n 1, 1) := by decide +kernel
theorem dJ9_max_7cf53_10 : decode cJ9_max_7cf53 10 = .ok (.ireturn, 1) := by decide +kernel
theorem dJ9_min_7cf53_0 : decode cJ9_min_7cf53 0 = .ok (.iload_n 0, 1) := by decide +kernel
theorem dJ9_min_7cf53_1 : decode cJ9_min_7cf53 1 = .ok (.iload_n 1, 1) := by decide +kernel
theorem dJ9_min_7cf53_2 : decode cJ9_min_7cf53 2 = .ok (.if_icmp .gt 7, 3) := by decide +kernel
theorem dJ9_min_7cf53_5 : decode cJ9_min_7cf53 5 = .ok (.iload_n 0, 1) := by decide +kernel
theorem dJ9_min_7cf53_6 : decode cJ9_min_7cf53 6 = .ok (.goto 4, 3) := by decide +kernel
theorem dJ9_min_7cf53_9 : decode cJ9_min_7cf53 9 = .ok (.iload_n 1, 1) := by decide +kernel
theorem dJ9_min_7cf53_10 : decode cJ9_min_7cf53 10 = .ok (.ireturn, 1) := by decide +kernel
theorem dJ0_length_8abf5_0 : decode cJ0_length_8abf5 0 = .ok (.aload_n 0, 1) := by decide +kernel
theorem dJ0_length_8abf5_1 : decode cJ0_length_8abf5 1 = .ok (.getfield 9, 3) := by decide +kernel
theorem dJ0_length_8abf5_4 : decode cJ0_length_8abf5 4 = .ok (.arraylength, 1) := by decide +kernel
theorem dJ0_length_8abf5_5 : decode cJ0_length_8abf5 5 = .ok (.aload_n 0, 1) := by decide +kernel
theorem dJ0_length_8abf5_6 : decode cJ0_length_8abf5 6 = .ok (.invokevirtual 335, 3) := by decide +kernel
theorem dJ0_length_8abf5_9 : decode cJ0_length_8abf5 9 = .ok (.ishr, 1) := by decide +kernel
theorem dJ0_length_8abf5_10 : decode cJ0_length_8abf5 10 = .ok (.ireturn, 1) := by decide +kernel
theorem dJ0_charAt_5068e_0 : decode cJ0_charAt_5068e 0 = .ok (.aload_n 0, 1) := by decide +kernel
theorem dJ0_charAt_5068e_1 : decode cJ0_charAt_5068e 1 = .ok (.invokevirtual 492, 3) := by decide +kernel
theorem dJ0_charAt_5068e_4 : decode cJ0_charAt_5068e 4 = .ok (.ifCond .eq 12, 3) := by decide +kernel
theorem dJ0_charAt_5068e_7 : decode cJ0_charAt_5068e 7 = .ok (.aload_n 0, 1) := by decide +kernel
theorem dJ0_charAt_5068e_8 : decode cJ0_charAt_5068e 8 = .ok (.getfield 9, 3) := by decide +kernel
theorem dJ0_charAt_5068e_11 : decode cJ0_charAt_5068e 11 = .ok (.iload_n 1, 1) := by decide +kernel
theorem dJ0_charAt_5068e_12 : decode cJ0_charAt_5068e 12 = .ok (.invokestatic 495, 3) := by decide +kernel
theorem dJ0_charAt_5068e_15 : decode cJ0_charAt_5068e 15 = .ok (.ireturn, 1) := by decide +kernel
theorem dJ0_charAt_5068e_16 : decode cJ0_charAt_5068e 16 = .ok (.aload_n 0, 1) := by decide +kernel
theorem dJ0_charAt_5068e_17 : decode cJ0_charAt_5068e 17 = .ok (.getfield 9, 3) := by decide +kernel
theorem dJ0_charAt_5068e_20 : decode cJ0_charAt_5068e 20 = .ok (.iload_n 1, 1) := by decide +kernel
theorem dJ0_charAt_5068e_21 : decode cJ0_charAt_5068e 21 = .ok (.invokestatic 498, 3) := by decide +kernel
theorem dJ0_charAt_5068e_24 : decode cJ0_charAt_5068e 24 = .ok (.ireturn, 1) := by decide +kernel
theorem dJ0_indexOf_0f7a4_0 : decode cJ0_indexOf_0f7a4 0 = .ok (.aload_n 0, 1) := by decide +kernel
theorem dJ0_indexOf_0f7a4_1 : decode cJ0_indexOf_0f7a4 1 = .ok (.iload_n 1, 1) := by decide +kernel
theorem dJ0_indexOf_0f7a4_2 : decode cJ0_indexOf_0f7a4 2 = .ok (.iconst 0, 1) := by decide +kernel
theorem dJ0_indexOf_0f7a4_3 : decode cJ0_indexOf_0f7a4 3 = .ok (.invokevirtual 633, 3) := by decide +kernel
theorem dJ0_indexOf_0f7a4_6 : decode cJ0_indexOf_0f7a4 6 = .ok (.ireturn, 1) := by decide +kernel
theorem dJ0_indexOf_7cf53_0 : decode cJ0_indexOf_7cf53 0 = .ok (.aload_n 0, 1) := by decide +kernel
theorem dJ0_indexOf_7cf53_1 : decode cJ0_indexOf_7cf53 1 = .ok (.invokevirtual 492, 3) := by decide +kernel
theorem dJ0_indexOf_7cf53_4 : decode cJ0_indexOf_7cf53 4 = .ok (.ifCond .eq 19, 3) := by decide +kernel
theorem dJ0_indexOf_7cf53_7 : decode cJ0_indexOf_7cf53 7 = .ok (.aload_n 0, 1) := by decide +kernel
theorem dJ0_indexOf_7cf53_8 : decode cJ0_indexOf_7cf53 8 = .ok (.getfield 9, 3) := by decide +kernel
theorem dJ0_indexOf_7cf53_11 : decode cJ0_indexOf_7cf53 11 = .ok (.iload_n 1, 1) := by decide +kernel
theorem dJ0_indexOf_7cf53_12 : decode cJ0_indexOf_7cf53 12 = .ok (.iload_n 2, 1) := by decide +kernel
theorem dJ0_indexOf_7cf53_13 : decode cJ0_indexOf_7cf53 13 = .ok (.aload_n 0, 1) := by decide +kernel
theorem dJ0_indexOf_7cf53_14 : decode cJ0_indexOf_7cf53 14 = .ok (.invokevirtual 505, 3) := by decide +kernel
theorem dJ0_indexOf_7cf53_17 : decode cJ0_indexOf_7cf53 17 = .ok (.invokestatic 637, 3) := by decide +kernel
theorem dJ0_indexOf_7cf53_20 : decode cJ0_indexOf_7cf53 20 = .ok (.goto 16, 3) := by decide +kernel
theorem dJ0_indexOf_7cf53_23 : decode cJ0_indexOf_7cf53 23 = .ok (.aload_n 0, 1) := by decide +kernel
theorem dJ0_indexOf_7cf53_24 : decode cJ0_indexOf_7cf53 24 = .ok (.getfield 9, 3) := by decide +kernel
theorem dJ0_indexOf_7cf53_27 : decode cJ0_indexOf_7cf53 27 = .ok (.iload_n 1, 1) := by decide +kernel
theorem dJ0_indexOf_7cf53_28 : decode cJ0_indexOf_7cf53 28 = .ok (.iload_n 2, 1) := by decide +kernel
theorem dJ0_indexOf_7cf53_29 : decode cJ0_indexOf_7cf53 29 = .ok (.aload_n 0, 1) := by decide +kernel
theorem dJ0_indexOf_7cf53_30 : decode cJ0_indexOf_7cf53 30 = .ok (.invokevirtual 505, 3) := by decide +kernel
theorem dJ0_indexOf_7cf53_33 : decode cJ0_indexOf_7cf53 33 = .ok (.invokestatic 640, 3) := by decide +kernel
theorem dJ0_indexOf_7cf53_36 : decode cJ0_indexOf_7cf53 36 = .ok (.ireturn, 1) := by decide +kernel
theorem dJ0_coder_7d493_0 : decode cJ0_coder_7d493 0 = .ok (.getstatic 38, 3) := by decide +kernel
theorem dJ0_coder_7d493_3 : decode cJ0_coder_7d493 3 = .ok (.ifCond .eq 10, 3) := by decide +kernel
theorem dJ0_coder_7d493_6 : decode cJ0_coder_7d493 6 = .ok (.aload_n 0, 1) := by decide +kernel
theorem dJ0_coder_7d493_7 : decode cJ0_coder_7d493 7 = .ok (.getfield 15, 3) := by decide +kernel
theorem dJ0_coder_7d493_10 : decode cJ0_coder_7d493 10 = .ok (.goto 4, 3) := by decide +kernel
theorem dJ0_coder_7d493_13 : decode cJ0_coder_7d493 13 = .ok (.iconst 1, 1) := by decide +kernel
theorem dJ0_coder_7d493_14 : decode cJ0_coder_7d493 14 = .ok (.ireturn, 1) := by decide +kernel
theorem dJ0_isLatin1_aae02_0 : decode cJ0_isLatin1_aae02 0 = .ok (.getstatic 38, 3) := by decide +kernel
theorem dJ0_isLatin1_aae02_3 : decode cJ0_isLatin1_aae02 3 = .ok (.ifCond .eq 14, 3) := by decide +kernel
theorem dJ0_isLatin1_aae02_6 : decode cJ0_isLatin1_aae02 6 = .ok (.aload_n 0, 1) := by decide +kernel
theorem dJ0_isLatin1_aae02_7 : decode cJ0_isLatin1_aae02 7 = .ok (.getfield 15, 3) := by decide +kernel
theorem dJ0_isLatin1_aae02_10 : decode cJ0_isLatin1_aae02 10 = .ok (.ifCond .ne 7, 3) := by decide +kernel
theorem dJ0_isLatin1_aae02_13 : decode cJ0_isLatin1_aae02 13 = .ok (.iconst 1, 1) := by decide +kernel
theorem dJ0_isLatin1_aae02_14 : decode cJ0_isLatin1_aae02 14 = .ok (.goto 4, 3) := by decide +kernel
theorem dJ0_isLatin1_aae02_17 : decode cJ0_isLatin1_aae02 17 = .ok (.iconst 0, 1) := by decide +kernel
theorem dJ0_isLatin1_aae02_18 : decode cJ0_isLatin1_aae02 18 = .ok (.ireturn, 1) := by decide +kernel
theorem dJ0_checkIndex_df160_0 : decode cJ0_checkIndex_df160 0 = .ok (.iload_n 0, 1) := by decide +kernel
theorem dJ0_checkIndex_df160_1 : decode cJ0_checkIndex_df160 1 = .ok (.iload_n 1, 1) := by decide +kernel
theorem dJ0_checkIndex_df160_2 : decode cJ0_checkIndex_df160 2 = .ok (.getstatic 1053, 3) := by decide +kernel
theorem dJ0_checkIndex_df160_5 : decode cJ0_checkIndex_df160 5 = .ok (.invokestatic 1059, 3) := by decide +kernel
theorem dJ0_checkIndex_df160_8 : decode cJ0_checkIndex_df160 8 = .ok (.pop, 1) := by decide +kernel
theorem dJ0_checkIndex_df160_9 : decode cJ0_checkIndex_df160 9 = .ok (.return_, 1) := by decide +kernel
theorem dJ0_checkBoundsBeginEnd_23922_0 : decode cJ0_checkBoundsBeginEnd_23922 0 = .ok (.iload_n 0, 1) := by decide +kernel
theorem dJ0_checkBoundsBeginEnd_23922_1 : decode cJ0_checkBoundsBeginEnd_23922 1 = .ok (.iload_n 1, 1) := by decide +kernel
theorem dJ0_checkBoundsBeginEnd_23922_2 : decode cJ0_checkBoundsBeginEnd_23922 2 = .ok (.iload_n 2, 1) := by decide +kernel
theorem dJ0_checkBoundsBeginEnd_23922_3 : decode cJ0_checkBoundsBeginEnd_23922 3 = .ok (.getstatic 1053, 3) := by decide +kernel
theorem dJ0_checkBoundsBeginEnd_23922_6 : decode cJ0_checkBoundsBeginEnd_23922 6 = .ok (.invokestatic 1062, 3) := by decide +kernel
theorem dJ0_checkBoundsBeginEnd_23922_9 : decode cJ0_checkBoundsBeginEnd_23922 9 = .ok (.pop, 1) := by decide +kernel
theorem dJ0_checkBoundsBeginEnd_23922_10 : decode cJ0_checkBoundsBeginEnd_23922 10 = .ok (.return_, 1) := by decide +kernel
theorem dJ1_charAt_3b067_0 : decode cJ1_charAt_3b067 0 = .ok (.iload_n 1, 1) := by decide +kernel
theorem dJ1_charAt_3b067_1 : decode cJ1_charAt_3b067 1 = .ok (.aload_n 0, 1) := by decide +kernel
theorem dJ1_charAt_3b067_2 : decode cJ1_charAt_3b067 2 = .ok (.arraylength, 1) := by decide +kernel
theorem dJ1_charAt_3b067_3 : decode cJ1_charAt_3b067 3 = .ok (.invokestatic 9, 3) := by decide +kernel
theorem dJ1_charAt_3b067_6 : decode cJ1_charAt_3b067 6 = .ok (.aload_n 0, 1) := by decide +kernel
theorem dJ1_charAt_3b067_7 : decode cJ1_charAt_3b067 7 = .ok (.iload_n 1, 1) := by decide +kernel
theorem dJ1_charAt_3b067_8 : decode cJ1_charAt_3b067 8 = .ok (.baload, 1) := by decide +kernel
theorem dJ1_charAt_3b067_9 : decode cJ1_charAt_3b067 9 = .ok (.sipush 255, 3) := by decide +kernel
theorem dJ1_charAt_3b067_12 : decode cJ1_charAt_3b067 12 = .ok (.iand, 1) := by decide +kernel
theorem dJ1_charAt_3b067_13 : decode cJ1_charAt_3b067 13 = .ok (.i2c, 1) := by decide +kernel
theorem dJ1_charAt_3b067_14 : decode cJ1_charAt_3b067 14 = .ok (.ireturn, 1) := by decide +kernel
theorem dJ1_canEncode_9a6ad_0 : decode cJ1_canEncode_9a6ad 0 = .ok (.iload_n 0, 1) := by decide +kernel
theorem dJ1_canEncode_9a6ad_1 : decode cJ1_canEncode_9a6ad 1 = .ok (.ifCond .lt 14, 3) := by decide +kernel
theorem dJ1_canEncode_9a6ad_4 : decode cJ1_canEncode_9a6ad 4 = .ok (.iload_n 0, 1) := by decide +kernel
theorem dJ1_canEncode_9a6ad_5 : decode cJ1_canEncode_9a6ad 5 = .ok (.sipush 255, 3) := by decide +kernel
theorem dJ1_canEncode_9a6ad_8 : decode cJ1_canEncode_9a6ad 8 = .ok (.if_icmp .gt 7, 3) := by decide +kernel
theorem dJ1_canEncode_9a6ad_11 : decode cJ1_canEncode_9a6ad 11 = .ok (.iconst 1, 1) := by decide +kernel
theorem dJ1_canEncode_9a6ad_12 : decode cJ1_canEncode_9a6ad 12 = .ok (.goto 4, 3) := by decide +kernel
theorem dJ1_canEncode_9a6ad_15 : decode cJ1_canEncode_9a6ad 15 = .ok (.iconst 0, 1) := by decide +kernel
theorem dJ1_canEncode_9a6ad_16 : decode cJ1_canEncode_9a6ad 16 = .ok (.ireturn, 1) := by decide +kernel
theorem dJ1_indexOf_4cfef_0 : decode cJ1_indexOf_4cfef 0 = .ok (.iload_n 1, 1) := by decide +kernel
theorem dJ1_indexOf_4cfef_1 : decode cJ1_indexOf_4cfef 1 = .ok (.invokestatic 88, 3) := by decide +kernel
theorem dJ1_indexOf_4cfef_4 : decode cJ1_indexOf_4cfef 4 = .ok (.ifCond .ne 5, 3) := by decide +kernel
theorem dJ1_indexOf_4cfef_7 : decode cJ1_indexOf_4cfef 7 = .ok (.iconst (-1), 1) := by decide +kernel
theorem dJ1_indexOf_4cfef_8 : decode cJ1_indexOf_4cfef 8 = .ok (.ireturn, 1) := by decide +kernel
theorem dJ1_indexOf_4cfef_9 : decode cJ1_indexOf_4cfef 9 = .ok (.iload_n 2, 1) := by decide +kernel
theorem dJ1_indexOf_4cfef_10 : decode cJ1_indexOf_4cfef 10 = .ok (.iconst 0, 1) := by decide +kernel
theorem dJ1_indexOf_4cfef_11 : decode cJ1_indexOf_4cfef 11 = .ok (.invokestatic 92, 3) := by decide +kernel
theorem dJ1_indexOf_4cfef_14 : decode cJ1_indexOf_4cfef 14 = .ok (.istore_n 2, 1) := by decide +kernel
theorem dJ1_indexOf_4cfef_15 : decode cJ1_indexOf_4cfef 15 = .ok (.iload_n 3, 1) := by decide +kernel
theorem dJ1_indexOf_4cfef_16 : decode cJ1_indexOf_4cfef 16 = .ok (.aload_n 0, 1) := by decide +kernel
theorem dJ1_indexOf_4cfef_17 : decode cJ1_indexOf_4cfef 17 = .ok (.arraylength, 1) := by decide +kernel
theorem dJ1_indexOf_4cfef_18 : decode cJ1_indexOf_4cfef 18 = .ok (.invokestatic 38, 3) := by decide +kernel
theorem dJ1_indexOf_4cfef_21 : decode cJ1_indexOf_4cfef 21 = .ok (.istore_n 3, 1) := by decide +kernel
theorem dJ1_indexOf_4cfef_22 : decode cJ1_indexOf_4cfef 22 = .ok (.iload_n 2, 1) := by decide +kernel
theorem dJ1_indexOf_4cfef_23 : decode cJ1_indexOf_4cfef 23 = .ok (.iload_n 3, 1) := by decide +kernel
theorem dJ1_indexOf_4cfef_24 : decode cJ1_indexOf_4cfef 24 = .ok (.if_icmp .lt 5, 3) := by decide +kernel
theorem dJ1_indexOf_4cfef_27 : decode cJ1_indexOf_4cfef 27 = .ok (.iconst (-1), 1) := by decide +kernel
theorem dJ1_indexOf_4cfef_28 : decode cJ1_indexOf_4cfef 28 = .ok (.ireturn, 1) := by decide +kernel
theorem dJ1_indexOf_4cfef_29 : decode cJ1_indexOf_4cfef 29 = .ok (.aload_n 0, 1) := by decide +kernel
theorem dJ1_indexOf_4cfef_30 : decode cJ1_indexOf_4cfef 30 = .ok (.iload_n 1, 1) := by decide +kernel
theorem dJ1_indexOf_4cfef_31 : decode cJ1_indexOf_4cfef 31 = .ok (.iload_n 2, 1) := by decide +kernel
theorem dJ1_indexOf_4cfef_32 : decode cJ1_indexOf_4cfef 32 = .ok (.iload_n 3, 1) := by decide +kernel
theorem dJ1_indexOf_4cfef_33 : decode cJ1_indexOf_4cfef 33 = .ok (.invokestatic 95, 3) := by decide +kernel
theorem dJ1_indexOf_4cfef_36 : decode cJ1_indexOf_4cfef 36 = .ok (.ireturn, 1) := by decide +kernel
theorem dJ1_indexOfChar_4cfef_0 : decode cJ1_indexOfChar_4cfef 0 = .ok (.iload_n 1, 1) := by decide +kernel
theorem dJ1_indexOfChar_4cfef_1 : decode cJ1_indexOfChar_4cfef 1 = .ok (.i2b, 1) := by decide +kernel
theorem dJ1_indexOfChar_4cfef_2 : decode cJ1_indexOfChar_4cfef 2 = .ok (.istore 4, 2) := by decide +kernel
theorem dJ1_indexOfChar_4cfef_4 : decode cJ1_indexOfChar_4cfef 4 = .ok (.iload_n 2, 1) := by decide +kernel
theorem dJ1_indexOfChar_4cfef_5 : decode cJ1_indexOfChar_4cfef 5 = .ok (.istore 5, 2) := by decide +kernel
theorem dJ1_indexOfChar_4cfef_7 : decode cJ1_indexOfChar_4cfef 7 = .ok (.iload 5, 2) := by decide +kernel
theorem dJ1_indexOfChar_4cfef_9 : decode cJ1_indexOfChar_4cfef 9 = .ok (.iload_n 3, 1) := by decide +kernel
theorem dJ1_indexOfChar_4cfef_10 : decode cJ1_indexOfChar_4cfef 10 = .ok (.if_icmp .ge 21, 3) := by decide +kernel
theorem dJ1_indexOfChar_4cfef_13 : decode cJ1_indexOfChar_4cfef 13 = .ok (.aload_n 0, 1) := by decide +kernel
theorem dJ1_indexOfChar_4cfef_14 : decode cJ1_indexOfChar_4cfef 14 = .ok (.iload 5, 2) := by decide +kernel
theorem dJ1_indexOfChar_4cfef_16 : decode cJ1_indexOfChar_4cfef 16 = .ok (.baload, 1) := by decide +kernel
theorem dJ1_indexOfChar_4cfef_17 : decode cJ1_indexOfChar_4cfef 17 = .ok (.iload 4, 2) := by decide +kernel
theorem dJ1_indexOfChar_4cfef_19 : decode cJ1_indexOfChar_4cfef 19 = .ok (.if_icmp .ne 6, 3) := by decide +kernel
theorem dJ1_indexOfChar_4cfef_22 : decode cJ1_indexOfChar_4cfef 22 = .ok (.iload 5, 2) := by decide +kernel
theorem dJ1_indexOfChar_4cfef_24 : decode cJ1_indexOfChar_4cfef 24 = .ok (.ireturn, 1) := by decide +kernel
theorem dJ1_indexOfChar_4cfef_25 : decode cJ1_indexOfChar_4cfef 25 = .ok (.iinc 5 1, 3) := by decide +kernel
theorem dJ1_indexOfChar_4cfef_28 : decode cJ1_indexOfChar_4cfef 28 = .ok (.goto (-21), 3) := by decide +kernel
theorem dJ1_indexOfChar_4cfef_31 : decode cJ1_indexOfChar_4cfef 31 = .ok (.iconst (-1), 1) := by decide +kernel
theorem dJ1_indexOfChar_4cfef_32 : decode cJ1_indexOfChar_4cfef 32 = .ok (.ireturn, 1) := by decide +kernel
theorem dJ2_getChar_3b067_0 : decode cJ2_getChar_3b067 0 = .ok (.getstatic 44, 3) := by decide +kernel
theorem dJ2_getChar_3b067_3 : decode cJ2_getChar_3b067 3 = .ok (.ifCond .ne 25, 3) := by decide +kernel
theorem dJ2_getChar_3b067_6 : decode cJ2_getChar_3b067 6 = .ok (.iload_n 1, 1) := by decide +kernel
theorem dJ2_getChar_3b067_7 : decode cJ2_getChar_3b067 7 = .ok (.ifCond .lt 11, 3) := by decide +kernel
theorem dJ2_getChar_3b067_10 : decode cJ2_getChar_3b067 10 = .ok (.iload_n 1, 1) := by decide +kernel
theorem dJ2_getChar_3b067_11 : decode cJ2_getChar_3b067 11 = .ok (.aload_n 0, 1) := by decide +kernel
theorem dJ2_getChar_3b067_12 : decode cJ2_getChar_3b067 12 = .ok (.invokestatic 48, 3) := by decide +kernel
theorem dJ2_getChar_3b067_15 : decode cJ2_getChar_3b067 15 = .ok (.if_icmp .lt 13, 3) := by decide +kernel
theorem dJ2_getChar_3b067_18 : decode cJ2_getChar_3b067 18 = .ok (.new 52, 3) := by decide +kernel
theorem dJ2_getChar_3b067_21 : decode cJ2_getChar_3b067 21 = .ok (.dup, 1) := by decide +kernel
theorem dJ2_getChar_3b067_22 : decode cJ2_getChar_3b067 22 = .ok (.ldc 54, 2) := by decide +kernel
theorem dJ2_getChar_3b067_24 : decode cJ2_getChar_3b067 24 = .ok (.invokespecial 56, 3) := by decide +kernel
theorem dJ2_getChar_3b067_27 : decode cJ2_getChar_3b067 27 = .ok (.athrow, 1) := by decide +kernel
theorem dJ2_getChar_3b067_28 : decode cJ2_getChar_3b067 28 = .ok (.iload_n 1, 1) := by decide +kernel
theorem dJ2_getChar_3b067_29 : decode cJ2_getChar_3b067 29 = .ok (.iconst 1, 1) := by decide +kernel
theorem dJ2_getChar_3b067_30 : decode cJ2_getChar_3b067 30 = .ok (.ishl, 1) := by decide +kernel
theorem dJ2_getChar_3b067_31 : decode cJ2_getChar_3b067 31 = .ok (.istore_n 1, 1) := by decide +kernel
theorem dJ2_getChar_3b067_32 : decode cJ2_getChar_3b067 32 = .ok (.aload_n 0, 1) := by decide +kernel
theorem dJ2_getChar_3b067_33 : decode cJ2_getChar_3b067 33 = .ok (.iload_n 1, 1) := by decide +kernel
theorem dJ2_getChar_3b067_34 : decode cJ2_getChar_3b067 34 = .ok (.iinc 1 1, 3) := by decide +kernel
theorem dJ2_getChar_3b067_37 : decode cJ2_getChar_3b067 37 = .ok (.baload, 1) := by decide +kernel
theorem dJ2_getChar_3b067_38 : decode cJ2_getChar_3b067 38 = .ok (.sipush 255, 3) := by decide +kernel
theorem dJ2_getChar_3b067_41 : decode cJ2_getChar_3b067 41 = .ok (.iand, 1) := by decide +kernel
theorem dJ2_getChar_3b067_42 : decode cJ2_getChar_3b067 42 = .ok (.getstatic 59, 3) := by decide +kernel
theorem dJ2_getChar_3b067_45 : decode cJ2_getChar_3b067 45 = .ok (.ishl, 1) := by decide +kernel
theorem dJ2_getChar_3b067_46 : decode cJ2_getChar_3b067 46 = .ok (.aload_n 0, 1) := by decide +kernel
theorem dJ2_getChar_3b067_47 : decode cJ2_getChar_3b067 47 = .ok (.iload_n 1, 1) := by decide +kernel
theorem dJ2_getChar_3b067_48 : decode cJ2_getChar_3b067 48 = .ok (.baload, 1) := by decide +kernel
theorem dJ2_getChar_3b067_49 : decode cJ2_getChar_3b067 49 = .ok (.sipush 255, 3) := by decide +kernel
theorem dJ2_getChar_3b067_52 : decode cJ2_getChar_3b067 52 = .ok (.iand, 1) := by decide +kernel
theorem dJ2_getChar_3b067_53 : decode cJ2_getChar_3b067 53 = .ok (.getstatic 63, 3) := by decide +kernel
theorem dJ2_getChar_3b067_56 : decode cJ2_getChar_3b067 56 = .ok (.ishl, 1) := by decide +kernel
theorem dJ2_getChar_3b067_57 : decode cJ2_getChar_3b067 57 = .ok (.ior, 1) := by decide +kernel
theorem dJ2_getChar_3b067_58 : decode cJ2_getChar_3b067 58 = .ok (.i2c, 1) := by decide +kernel
theorem dJ2_getChar_3b067_59 : decode cJ2_getChar_3b067 59 = .ok (.ireturn, 1) := by decide +kernel
theorem dJ2_length_9d52b_0 : decode cJ2_length_9d52b 0 = .ok (.aload_n 0, 1) := by decide +kernel
theorem dJ2_length_9d52b_1 : decode cJ2_length_9d52b 1 = .ok (.arraylength, 1) := by decide +kernel
theorem dJ2_length_9d52b_2 : decode cJ2_length_9d52b 2 = .ok (.iconst 1, 1) := by decide +kernel
