theorem dX11_init_0 : decode cX11_init 0 = .ok (.aload_n 0, 1) := by decide +kernel
theorem dX11_init_1 : decode cX11_init 1 = .ok (.invokespecial 1, 3) := by decide +kernel
theorem dX11_init_4 : decode cX11_init 4 = .ok (.aload_n 0, 1) := by decide +kernel
theorem dX11_init_5 : decode cX11_init 5 = .ok (.bipush 8, 2) := by decide +kernel
theorem dX11_init_7 : decode cX11_init 7 = .ok (.anewarray 9, 3) := by decide +kernel
theorem dX11_init_10 : decode cX11_init 10 = .ok (.putfield 11, 3) := by decide +kernel
theorem dX11_init_13 : decode cX11_init 13 = .ok (.aload_n 0, 1) := by decide +kernel
theorem dX11_init_14 : decode cX11_init 14 = .ok (.new 15, 3) := by decide +kernel
theorem dX11_init_17 : decode cX11_init 17 = .ok (.dup, 1) := by decide +kernel
theorem dX11_init_18 : decode cX11_init 18 = .ok (.invokespecial 17, 3) := by decide +kernel
theorem dX11_init_21 : decode cX11_init 21 = .ok (.putfield 18, 3) := by decide +kernel
theorem dX11_init_24 : decode cX11_init 24 = .ok (.aload_n 0, 1) := by decide +kernel
theorem dX11_init_25 : decode cX11_init 25 = .ok (.bipush 6, 2) := by decide +kernel
theorem dX11_init_27 : decode cX11_init 27 = .ok (.anewarray 22, 3) := by decide +kernel
theorem dX11_init_30 : decode cX11_init 30 = .ok (.putfield 24, 3) := by decide +kernel
theorem dX11_init_33 : decode cX11_init 33 = .ok (.aload_n 0, 1) := by decide +kernel
theorem dX11_init_34 : decode cX11_init 34 = .ok (.new 28, 3) := by decide +kernel
theorem dX11_init_37 : decode cX11_init 37 = .ok (.dup, 1) := by decide +kernel
theorem dX11_init_38 : decode cX11_init 38 = .ok (.invokespecial 30, 3) := by decide +kernel
theorem dX11_init_41 : decode cX11_init 41 = .ok (.putfield 31, 3) := by decide +kernel
theorem dX11_init_44 : decode cX11_init 44 = .ok (.aload_n 0, 1) := by decide +kernel
theorem dX11_init_45 : decode cX11_init 45 = .ok (.iconst 2, 1) := by decide +kernel
theorem dX11_init_46 : decode cX11_init 46 = .ok (.anewarray 35, 3) := by decide +kernel
theorem dX11_init_49 : decode cX11_init 49 = .ok (.putfield 37, 3) := by decide +kernel
theorem dX11_init_52 : decode cX11_init 52 = .ok (.aload_n 0, 1) := by decide +kernel
theorem dX11_init_53 : decode cX11_init 53 = .ok (.bipush 24, 2) := by decide +kernel
theorem dX11_init_55 : decode cX11_init 55 = .ok (.anewarray 35, 3) := by decide +kernel
theorem dX11_init_58 : decode cX11_init 58 = .ok (.putfield 41, 3) := by decide +kernel
theorem dX11_init_61 : decode cX11_init 61 = .ok (.aload_n 0, 1) := by decide +kernel
theorem dX11_init_62 : decode cX11_init 62 = .ok (.iconst 0, 1) := by decide +kernel
theorem dX11_init_63 : decode cX11_init 63 = .ok (.putfield 44, 3) := by decide +kernel
theorem dX11_init_66 : decode cX11_init 66 = .ok (.aload_n 0, 1) := by decide +kernel
theorem dX11_init_67 : decode cX11_init 67 = .ok (.iconst 0, 1) := by decide +kernel
theorem dX11_init_68 : decode cX11_init 68 = .ok (.putfield 48, 3) := by decide +kernel
theorem dX11_init_71 : decode cX11_init 71 = .ok (.aload_n 0, 1) := by decide +kernel
theorem dX11_init_72 : decode cX11_init 72 = .ok (.iconst 4, 1) := by decide +kernel
theorem dX11_init_73 : decode cX11_init 73 = .ok (.newarray .int, 2) := by decide +kernel
theorem dX11_init_75 : decode cX11_init 75 = .ok (.putfield 51, 3) := by decide +kernel
theorem dX11_init_78 : decode cX11_init 78 = .ok (.aload_n 0, 1) := by decide +kernel
theorem dX11_init_79 : decode cX11_init 79 = .ok (.iconst 4, 1) := by decide +kernel
theorem dX11_init_80 : decode cX11_init 80 = .ok (.newarray .int, 2) := by decide +kernel
theorem dX11_init_82 : decode cX11_init 82 = .ok (.putfield 55, 3) := by decide +kernel
theorem dX11_init_85 : decode cX11_init 85 = .ok (.aload_n 0, 1) := by decide +kernel
theorem dX11_init_86 : decode cX11_init 86 = .ok (.iconst 4, 1) := by decide +kernel
theorem dX11_init_87 : decode cX11_init 87 = .ok (.newarray .int, 2) := by decide +kernel
theorem dX11_init_89 : decode cX11_init 89 = .ok (.putfield 58, 3) := by decide +kernel
theorem dX11_init_92 : decode cX11_init 92 = .ok (.aload_n 0, 1) := by decide +kernel
theorem dX11_init_93 : decode cX11_init 93 = .ok (.iconst 4, 1) := by decide +kernel
theorem dX11_init_94 : decode cX11_init 94 = .ok (.newarray .int, 2) := by decide +kernel
theorem dX11_init_96 : decode cX11_init 96 = .ok (.putfield 61, 3) := by decide +kernel
theorem dX11_init_99 : decode cX11_init 99 = .ok (.aload_n 0, 1) := by decide +kernel
theorem dX11_init_100 : decode cX11_init 100 = .ok (.iconst 0, 1) := by decide +kernel
theorem dX11_init_101 : decode cX11_init 101 = .ok (.putfield 64, 3) := by decide +kernel
theorem dX11_init_104 : decode cX11_init 104 = .ok (.aload_n 0, 1) := by decide +kernel
theorem dX11_init_105 : decode cX11_init 105 = .ok (.iconst 0, 1) := by decide +kernel
theorem dX11_init_106 : decode cX11_init 106 = .ok (.putfield 67, 3) := by decide +kernel
theorem dX11_init_109 : decode cX11_init 109 = .ok (.new 70, 3) := by decide +kernel
theorem dX11_init_112 : decode cX11_init 112 = .ok (.dup, 1) := by decide +kernel
theorem dX11_init_113 : decode cX11_init 113 = .ok (.invokespecial 72, 3) := by decide +kernel
theorem dX11_init_116 : decode cX11_init 116 = .ok (.astore_n 1, 1) := by decide +kernel
theorem dX11_init_117 : decode cX11_init 117 = .ok (.aload_n 0, 1) := by decide +kernel
theorem dX11_init_118 : decode cX11_init 118 = .ok (.getfield 24, 3) := by decide +kernel
theorem dX11_init_121 : decode cX11_init 121 = .ok (.iconst 1, 1) := by decide +kernel
theorem dX11_init_122 : decode cX11_init 122 = .ok (.aload_n 1, 1) := by decide +kernel
theorem dX11_init_123 : decode cX11_init 123 = .ok (.aastore, 1) := by decide +kernel
theorem dX11_init_124 : decode cX11_init 124 = .ok (.aload_n 0, 1) := by decide +kernel
theorem dX11_init_125 : decode cX11_init 125 = .ok (.getfield 24, 3) := by decide +kernel
theorem dX11_init_128 : decode cX11_init 128 = .ok (.iconst 2, 1) := by decide +kernel
theorem dX11_init_129 : decode cX11_init 129 = .ok (.new 73, 3) := by decide +kernel
theorem dX11_init_132 : decode cX11_init 132 = .ok (.dup, 1) := by decide +kernel
theorem dX11_init_133 : decode cX11_init 133 = .ok (.invokespecial 75, 3) := by decide +kernel
theorem dX11_init_136 : decode cX11_init 136 = .ok (.aastore, 1) := by decide +kernel
theorem dX11_init_137 : decode cX11_init 137 = .ok (.aload_n 0, 1) := by decide +kernel
theorem dX11_init_138 : decode cX11_init 138 = .ok (.getfield 24, 3) := by decide +kernel
theorem dX11_init_141 : decode cX11_init 141 = .ok (.iconst 3, 1) := by decide +kernel
theorem dX11_init_142 : decode cX11_init 142 = .ok (.new 76, 3) := by decide +kernel
theorem dX11_init_145 : decode cX11_init 145 = .ok (.dup, 1) := by decide +kernel
theorem dX11_init_146 : decode cX11_init 146 = .ok (.invokespecial 78, 3) := by decide +kernel
theorem dX11_init_149 : decode cX11_init 149 = .ok (.aastore, 1) := by decide +kernel
theorem dX11_init_150 : decode cX11_init 150 = .ok (.aload_n 0, 1) := by decide +kernel
theorem dX11_init_151 : decode cX11_init 151 = .ok (.getfield 24, 3) := by decide +kernel
theorem dX11_init_154 : decode cX11_init 154 = .ok (.iconst 4, 1) := by decide +kernel
theorem dX11_init_155 : decode cX11_init 155 = .ok (.new 79, 3) := by decide +kernel
theorem dX11_init_158 : decode cX11_init 158 = .ok (.dup, 1) := by decide +kernel
theorem dX11_init_159 : decode cX11_init 159 = .ok (.invokespecial 81, 3) := by decide +kernel
theorem dX11_init_162 : decode cX11_init 162 = .ok (.aastore, 1) := by decide +kernel
theorem dX11_init_163 : decode cX11_init 163 = .ok (.aload_n 0, 1) := by decide +kernel
theorem dX11_init_164 : decode cX11_init 164 = .ok (.getfield 24, 3) := by decide +kernel
theorem dX11_init_167 : decode cX11_init 167 = .ok (.iconst 5, 1) := by decide +kernel
theorem dX11_init_168 : decode cX11_init 168 = .ok (.new 82, 3) := by decide +kernel
theorem dX11_init_171 : decode cX11_init 171 = .ok (.dup, 1) := by decide +kernel
theorem dX11_init_172 : decode cX11_init 172 = .ok (.invokespecial 84, 3) := by decide +kernel
theorem dX11_init_175 : decode cX11_init 175 = .ok (.aastore, 1) := by decide +kernel
theorem dX11_init_176 : decode cX11_init 176 = .ok (.aload_n 0, 1) := by decide +kernel
theorem dX11_init_177 : decode cX11_init 177 = .ok (.new 35, 3) := by decide +kernel
theorem dX11_init_180 : decode cX11_init 180 = .ok (.dup, 1) := by decide +kernel
theorem dX11_init_181 : decode cX11_init 181 = .ok (.aload_n 1, 1) := by decide +kernel
theorem dX11_init_182 : decode cX11_init 182 = .ok (.invokespecial 85, 3) := by decide +kernel
theorem dX11_init_185 : decode cX11_init 185 = .ok (.putfield 88, 3) := by decide +kernel
theorem dX11_init_188 : decode cX11_init 188 = .ok (.aload_n 0, 1) := by decide +kernel
theorem dX11_init_189 : decode cX11_init 189 = .ok (.new 35, 3) := by decide +kernel
theorem dX11_init_192 : decode cX11_init 192 = .ok (.dup, 1) := by decide +kernel
theorem dX11_init_193 : decode cX11_init 193 = .ok (.aload_n 1, 1) := by decide +kernel
theorem dX11_init_194 : decode cX11_init 194 = .ok (.invokespecial 85, 3) := by decide +kernel
theorem dX11_init_197 : decode cX11_init 197 = .ok (.putfield 92, 3) := by decide +kernel
theorem dX11_init_200 : decode cX11_init 200 = .ok (.iconst 0, 1) := by decide +kernel
theorem dX11_init_201 : decode cX11_init 201 = .ok (.istore_n 2, 1) := by decide +kernel
theorem dX11_init_202 : decode cX11_init 202 = .ok (.iload_n 2, 1) := by decide +kernel
theorem dX11_init_203 : decode cX11_init 203 = .ok (.bipush 8, 2) := by decide +kernel
theorem dX11_init_205 : decode cX11_init 205 = .ok (.if_icmp .ge 22, 3) := by decide +kernel
theorem dX11_init_208 : decode cX11_init 208 = .ok (.aload_n 0, 1) := by decide +kernel
theorem dX11_init_209 : decode cX11_init 209 = .ok (.getfield 11, 3) := by decide +kernel
theorem dX11_init_212 : decode cX11_init 212 = .ok (.iload_n 2, 1) := by decide +kernel
theorem dX11_init_213 : decode cX11_init 213 = .ok (.new 9, 3) := by decide +kernel
theorem dX11_init_216 : decode cX11_init 216 = .ok (.dup, 1) := by decide +kernel
theorem dX11_init_217 : decode cX11_init 217 = .ok (.invokespecial 95, 3) := by decide +kernel
theorem dX11_init_220 : decode cX11_init 220 = .ok (.aastore, 1) := by decide +kernel
theorem dX11_init_221 : decode cX11_init 221 = .ok (.iinc 2 1, 3) := by decide +kernel
theorem dX11_init_224 : decode cX11_init 224 = .ok (.goto (-22), 3) := by decide +kernel
theorem dX11_init_227 : decode cX11_init 227 = .ok (.iconst 0, 1) := by decide +kernel
theorem dX11_init_228 : decode cX11_init 228 = .ok (.istore_n 2, 1) := by decide +kernel
theorem dX11_init_229 : decode cX11_init 229 = .ok (.iload_n 2, 1) := by decide +kernel
theorem dX11_init_230 : decode cX11_init 230 = .ok (.iconst 2, 1) := by decide +kernel
theorem dX11_init_231 : decode cX11_init 231 = .ok (.if_icmp .ge 23, 3) := by decide +kernel
theorem dX11_init_234 : decode cX11_init 234 = .ok (.aload_n 0, 1) := by decide +kernel
theorem dX11_init_235 : decode cX11_init 235 = .ok (.getfield 37, 3) := by decide +kernel
theorem dX11_init_238 : decode cX11_init 238 = .ok (.iload_n 2, 1) := by decide +kernel
theorem dX11_init_239 : decode cX11_init 239 = .ok (.new 35, 3) := by decide +kernel
theorem dX11_init_242 : decode cX11_init 242 = .ok (.dup, 1) := by decide +kernel
theorem dX11_init_243 : decode cX11_init 243 = .ok (.aload_n 1, 1) := by decide +kernel
theorem dX11_init_244 : decode cX11_init 244 = .ok (.invokespecial 85, 3) := by decide +kernel
theorem dX11_init_247 : decode cX11_init 247 = .ok (.aastore, 1) := by decide +kernel
theorem dX11_init_248 : decode cX11_init 248 = .ok (.iinc 2 1, 3) := by decide +kernel
theorem dX11_init_251 : decode cX11_init 251 = .ok (.goto (-22), 3) := by decide +kernel
theorem dX11_init_254 : decode cX11_init 254 = .ok (.iconst 0, 1) := by decide +kernel
theorem dX11_init_255 : decode cX11_init 255 = .ok (.istore_n 2, 1) := by decide +kernel
theorem dX11_init_256 : decode cX11_init 256 = .ok (.iload_n 2, 1) := by decide +kernel
theorem dX11_init_257 : decode cX11_init 257 = .ok (.bipush 24, 2) := by decide +kernel
theorem dX11_init_259 : decode cX11_init 259 = .ok (.if_icmp .ge 23, 3) := by decide +kernel
theorem dX11_init_262 : decode cX11_init 262 = .ok (.aload_n 0, 1) := by decide +kernel
theorem dX11_init_263 : decode cX11_init 263 = .ok (.getfield 41, 3) := by decide +kernel
theorem dX11_init_266 : decode cX11_init 266 = .ok (.iload_n 2, 1) := by decide +kernel
theorem dX11_init_267 : decode cX11_init 267 = .ok (.new 35, 3) := by decide +kernel
theorem dX11_init_270 : decode cX11_init 270 = .ok (.dup, 1) := by decide +kernel
theorem dX11_init_271 : decode cX11_init 271 = .ok (.aload_n 1, 1) := by decide +kernel
theorem dX11_init_272 : decode cX11_init 272 = .ok (.invokespecial 85, 3) := by decide +kernel
theorem dX11_init_275 : decode cX11_init 275 = .ok (.aastore, 1) := by decide +kernel
theorem dX11_init_276 : decode cX11_init 276 = .ok (.iinc 2 1, 3) := by decide +kernel
theorem dX11_init_279 : decode cX11_init 279 = .ok (.goto (-23), 3) := by decide +kernel
theorem dX11_init_282 : decode cX11_init 282 = .ok (.return_, 1) := by decide +kernel
theorem dX11_row_0 : decode cX11_row 0 = .ok (.iload_n 1, 1) := by decide +kernel
theorem dX11_row_1 : decode cX11_row 1 = .ok (.iconst 0, 1) := by decide +kernel
theorem dX11_row_2 : decode cX11_row 2 = .ok (.bipush 7, 2) := by decide +kernel
theorem dX11_row_4 : decode cX11_row 4 = .ok (.invokestatic 96, 3) := by decide +kernel
theorem dX11_row_7 : decode cX11_row 7 = .ok (.ifCond .eq 18, 3) := by decide +kernel
theorem dX11_row_10 : decode cX11_row 10 = .ok (.iload_n 2, 1) := by decide +kernel
theorem dX11_row_11 : decode cX11_row 11 = .ok (.iconst 0, 1) := by decide +kernel
theorem dX11_row_12 : decode cX11_row 12 = .ok (.iconst 2, 1) := by decide +kernel
theorem dX11_row_13 : decode cX11_row 13 = .ok (.invokestatic 96, 3) := by decide +kernel
theorem dX11_row_16 : decode cX11_row 16 = .ok (.ifCond .eq 9, 3) := by decide +kernel
theorem dX11_row_19 : decode cX11_row 19 = .ok (.iload_n 3, 1) := by decide +kernel
theorem dX11_row_20 : decode cX11_row 20 = .ok (.bipush 40, 2) := by decide +kernel
theorem dX11_row_22 : decode cX11_row 22 = .ok (.if_icmp .le 6, 3) := by decide +kernel
theorem dX11_row_25 : decode cX11_row 25 = .ok (.ldc 100, 2) := by decide +kernel
theorem dX11_row_27 : decode cX11_row 27 = .ok (.ireturn, 1) := by decide +kernel
theorem dX11_row_28 : decode cX11_row 28 = .ok (.iload_n 3, 1) := by decide +kernel
theorem dX11_row_29 : decode cX11_row 29 = .ok (.ifCond .ge 9, 3) := by decide +kernel
theorem dX11_row_32 : decode cX11_row 32 = .ok (.aload_n 0, 1) := by decide +kernel
theorem dX11_row_33 : decode cX11_row 33 = .ok (.iconst 4, 1) := by decide +kernel
theorem dX11_row_34 : decode cX11_row 34 = .ok (.invokevirtual 101, 3) := by decide +kernel
theorem dX11_row_37 : decode cX11_row 37 = .ok (.ireturn, 1) := by decide +kernel
theorem dX11_row_38 : decode cX11_row 38 = .ok (.aload_n 0, 1) := by decide +kernel
theorem dX11_row_39 : decode cX11_row 39 = .ok (.getfield 11, 3) := by decide +kernel
theorem dX11_row_42 : decode cX11_row 42 = .ok (.iload_n 1, 1) := by decide +kernel
theorem dX11_row_43 : decode cX11_row 43 = .ok (.aaload, 1) := by decide +kernel
theorem dX11_row_44 : decode cX11_row 44 = .ok (.iload_n 2, 1) := by decide +kernel
theorem dX11_row_45 : decode cX11_row 45 = .ok (.iload_n 3, 1) := by decide +kernel
theorem dX11_row_46 : decode cX11_row 46 = .ok (.invokevirtual 105, 3) := by decide +kernel
theorem dX11_row_49 : decode cX11_row 49 = .ok (.aload_n 0, 1) := by decide +kernel
theorem dX11_row_50 : decode cX11_row 50 = .ok (.iload_n 3, 1) := by decide +kernel
theorem dX11_row_51 : decode cX11_row 51 = .ok (.invokevirtual 109, 3) := by decide +kernel
theorem dX11_row_54 : decode cX11_row 54 = .ok (.ireturn, 1) := by decide +kernel
theorem dX11_set_0 : decode cX11_set 0 = .ok (.iload_n 1, 1) := by decide +kernel
theorem dX11_set_1 : decode cX11_set 1 = .ok (.iconst 0, 1) := by decide +kernel
theorem dX11_set_2 : decode cX11_set 2 = .ok (.bipush 7, 2) := by decide +kernel
theorem dX11_set_4 : decode cX11_set 4 = .ok (.invokestatic 96, 3) := by decide +kernel
theorem dX11_set_7 : decode cX11_set 7 = .ok (.ifCond .ne 6, 3) := by decide +kernel
theorem dX11_set_10 : decode cX11_set 10 = .ok (.ldc 100, 2) := by decide +kernel
theorem dX11_set_12 : decode cX11_set 12 = .ok (.ireturn, 1) := by decide +kernel
theorem dX11_set_13 : decode cX11_set 13 = .ok (.aload_n 0, 1) := by decide +kernel
theorem dX11_set_14 : decode cX11_set 14 = .ok (.getfield 11, 3) := by decide +kernel
theorem dX11_set_17 : decode cX11_set 17 = .ok (.iload_n 1, 1) := by decide +kernel
theorem dX11_set_18 : decode cX11_set 18 = .ok (.aaload, 1) := by decide +kernel
theorem dX11_set_19 : decode cX11_set 19 = .ok (.astore 4, 2) := by decide +kernel
theorem dX11_set_21 : decode cX11_set 21 = .ok (.aload 4, 2) := by decide +kernel
theorem dX11_set_23 : decode cX11_set 23 = .ok (.invokevirtual 112, 3) := by decide +kernel
theorem dX11_set_26 : decode cX11_set 26 = .ok (.ifCond .eq 9, 3) := by decide +kernel
theorem dX11_set_29 : decode cX11_set 29 = .ok (.aload_n 0, 1) := by decide +kernel
theorem dX11_set_30 : decode cX11_set 30 = .ok (.iconst 1, 1) := by decide +kernel
theorem dX11_set_31 : decode cX11_set 31 = .ok (.invokevirtual 101, 3) := by decide +kernel
theorem dX11_set_34 : decode cX11_set 34 = .ok (.ireturn, 1) := by decide +kernel
theorem dX11_set_35 : decode cX11_set 35 = .ok (.aload 4, 2) := by decide +kernel
theorem dX11_set_37 : decode cX11_set 37 = .ok (.iload_n 2, 1) := by decide +kernel
theorem dX11_set_38 : decode cX11_set 38 = .ok (.iconst 1, 1) := by decide +kernel
theorem dX11_set_39 : decode cX11_set 39 = .ok (.invokevirtual 116, 3) := by decide +kernel
theorem dX11_set_42 : decode cX11_set 42 = .ok (.ifCond .ne 9, 3) := by decide +kernel
theorem dX11_set_45 : decode cX11_set 45 = .ok (.aload_n 0, 1) := by decide +kernel
theorem dX11_set_46 : decode cX11_set 46 = .ok (.iconst 2, 1) := by decide +kernel
theorem dX11_set_47 : decode cX11_set 47 = .ok (.invokevirtual 101, 3) := by decide +kernel
theorem dX11_set_50 : decode cX11_set 50 = .ok (.ireturn, 1) := by decide +kernel
theorem dX11_set_51 : decode cX11_set 51 = .ok (.aload 4, 2) := by decide +kernel
theorem dX11_set_53 : decode cX11_set 53 = .ok (.getfield 120, 3) := by decide +kernel
theorem dX11_set_56 : decode cX11_set 56 = .ok (.iload_n 2, 1) := by decide +kernel
theorem dX11_set_57 : decode cX11_set 57 = .ok (.aload 4, 2) := by decide +kernel
theorem dX11_set_59 : decode cX11_set 59 = .ok (.iload_n 3, 1) := by decide +kernel
theorem dX11_set_60 : decode cX11_set 60 = .ok (.invokevirtual 123, 3) := by decide +kernel
theorem dX11_set_63 : decode cX11_set 63 = .ok (.iastore, 1) := by decide +kernel
theorem dX11_set_64 : decode cX11_set 64 = .ok (.aload_n 0, 1) := by decide +kernel
theorem dX11_set_65 : decode cX11_set 65 = .ok (.aload 4, 2) := by decide +kernel
theorem dX11_set_67 : decode cX11_set 67 = .ok (.getfield 120, 3) := by decide +kernel
theorem dX11_set_70 : decode cX11_set 70 = .ok (.iload_n 2, 1) := by decide +kernel
theorem dX11_set_71 : decode cX11_set 71 = .ok (.iaload, 1) := by decide +kernel
theorem dX11_set_72 : decode cX11_set 72 = .ok (.invokevirtual 109, 3) := by decide +kernel
theorem dX11_set_75 : decode cX11_set 75 = .ok (.ireturn, 1) := by decide +kernel
theorem dX11_copy_0 : decode cX11_copy 0 = .ok (.iload_n 1, 1) := by decide +kernel
theorem dX11_copy_1 : decode cX11_copy 1 = .ok (.iconst 0, 1) := by decide +kernel
theorem dX11_copy_2 : decode cX11_copy 2 = .ok (.bipush 7, 2) := by decide +kernel
theorem dX11_copy_4 : decode cX11_copy 4 = .ok (.invokestatic 96, 3) := by decide +kernel
theorem dX11_copy_7 : decode cX11_copy 7 = .ok (.ifCond .eq 13, 3) := by decide +kernel
theorem dX11_copy_10 : decode cX11_copy 10 = .ok (.iload_n 3, 1) := by decide +kernel
theorem dX11_copy_11 : decode cX11_copy 11 = .ok (.iconst 0, 1) := by decide +kernel
theorem dX11_copy_12 : decode cX11_copy 12 = .ok (.bipush 7, 2) := by decide +kernel
theorem dX11_copy_14 : decode cX11_copy 14 = .ok (.invokestatic 96, 3) := by decide +kernel
theorem dX11_copy_17 : decode cX11_copy 17 = .ok (.ifCond .ne 6, 3) := by decide +kernel
theorem dX11_copy_20 : decode cX11_copy 20 = .ok (.ldc 100, 2) := by decide +kernel
theorem dX11_copy_22 : decode cX11_copy 22 = .ok (.ireturn, 1) := by decide +kernel
theorem dX11_copy_23 : decode cX11_copy 23 = .ok (.aload_n 0, 1) := by decide +kernel
theorem dX11_copy_24 : decode cX11_copy 24 = .ok (.getfield 11, 3) := by decide +kernel
theorem dX11_copy_27 : decode cX11_copy 27 = .ok (.iload_n 1, 1) := by decide +kernel
theorem dX11_copy_28 : decode cX11_copy 28 = .ok (.aaload, 1) := by decide +kernel
theorem dX11_copy_29 : decode cX11_copy 29 = .ok (.astore 6, 2) := by decide +kernel
theorem dX11_copy_31 : decode cX11_copy 31 = .ok (.aload_n 0, 1) := by decide +kernel
theorem dX11_copy_32 : decode cX11_copy 32 = .ok (.getfield 11, 3) := by decide +kernel
theorem dX11_copy_35 : decode cX11_copy 35 = .ok (.iload_n 3, 1) := by decide +kernel
theorem dX11_copy_36 : decode cX11_copy 36 = .ok (.aaload, 1) := by decide +kernel
theorem dX11_copy_37 : decode cX11_copy 37 = .ok (.astore 7, 2) := by decide +kernel
theorem dX11_copy_39 : decode cX11_copy 39 = .ok (.aload 6, 2) := by decide +kernel
theorem dX11_copy_41 : decode cX11_copy 41 = .ok (.invokevirtual 112, 3) := by decide +kernel
theorem dX11_copy_44 : decode cX11_copy 44 = .ok (.ifCond .ne 11, 3) := by decide +kernel
theorem dX11_copy_47 : decode cX11_copy 47 = .ok (.aload 7, 2) := by decide +kernel
theorem dX11_copy_49 : decode cX11_copy 49 = .ok (.invokevirtual 112, 3) := by decide +kernel
theorem dX11_copy_52 : decode cX11_copy 52 = .ok (.ifCond .eq 9, 3) := by decide +kernel
theorem dX11_copy_55 : decode cX11_copy 55 = .ok (.aload_n 0, 1) := by decide +kernel
theorem dX11_copy_56 : decode cX11_copy 56 = .ok (.iconst 1, 1) := by decide +kernel
theorem dX11_copy_57 : decode cX11_copy 57 = .ok (.invokevirtual 101, 3) := by decide +kernel
theorem dX11_copy_60 : decode cX11_copy 60 = .ok (.ireturn, 1) := by decide +kernel
theorem dX11_copy_61 : decode cX11_copy 61 = .ok (.aload 6, 2) := by decide +kernel
theorem dX11_copy_63 : decode cX11_copy 63 = .ok (.getfield 126, 3) := by decide +kernel
theorem dX11_copy_66 : decode cX11_copy 66 = .ok (.aload 7, 2) := by decide +kernel
theorem dX11_copy_68 : decode cX11_copy 68 = .ok (.getfield 126, 3) := by decide +kernel
theorem dX11_copy_71 : decode cX11_copy 71 = .ok (.if_icmp .eq 9, 3) := by decide +kernel
theorem dX11_copy_74 : decode cX11_copy 74 = .ok (.aload_n 0, 1) := by decide +kernel
theorem dX11_copy_75 : decode cX11_copy 75 = .ok (.iconst 5, 1) := by decide +kernel
theorem dX11_copy_76 : decode cX11_copy 76 = .ok (.invokevirtual 101, 3) := by decide +kernel
theorem dX11_copy_79 : decode cX11_copy 79 = .ok (.ireturn, 1) := by decide +kernel
theorem dX11_copy_80 : decode cX11_copy 80 = .ok (.aload 6, 2) := by decide +kernel
theorem dX11_copy_82 : decode cX11_copy 82 = .ok (.iload_n 2, 1) := by decide +kernel
theorem dX11_copy_83 : decode cX11_copy 83 = .ok (.iload 5, 2) := by decide +kernel
theorem dX11_copy_85 : decode cX11_copy 85 = .ok (.invokevirtual 116, 3) := by decide +kernel
theorem dX11_copy_88 : decode cX11_copy 88 = .ok (.ifCond .eq 15, 3) := by decide +kernel
theorem dX11_copy_91 : decode cX11_copy 91 = .ok (.aload 7, 2) := by decide +kernel
theorem dX11_copy_93 : decode cX11_copy 93 = .ok (.iload 4, 2) := by decide +kernel
theorem dX11_copy_95 : decode cX11_copy 95 = .ok (.iload 5, 2) := by decide +kernel
theorem dX11_copy_97 : decode cX11_copy 97 = .ok (.invokevirtual 116, 3) := by decide +kernel
theorem dX11_copy_100 : decode cX11_copy 100 = .ok (.ifCond .ne 9, 3) := by decide +kernel
theorem dX11_copy_103 : decode cX11_copy 103 = .ok (.aload_n 0, 1) := by decide +kernel
theorem dX11_copy_104 : decode cX11_copy 104 = .ok (.iconst 2, 1) := by decide +kernel
theorem dX11_copy_105 : decode cX11_copy 105 = .ok (.invokevirtual 101, 3) := by decide +kernel
theorem dX11_copy_108 : decode cX11_copy 108 = .ok (.ireturn, 1) := by decide +kernel
theorem dX11_copy_109 : decode cX11_copy 109 = .ok (.aload 6, 2) := by decide +kernel
theorem dX11_copy_111 : decode cX11_copy 111 = .ok (.getfield 120, 3) := by decide +kernel
theorem dX11_copy_114 : decode cX11_copy 114 = .ok (.iload_n 2, 1) := by decide +kernel
theorem dX11_copy_115 : decode cX11_copy 115 = .ok (.aload 7, 2) := by decide +kernel
theorem dX11_copy_117 : decode cX11_copy 117 = .ok (.getfield 120, 3) := by decide +kernel
theorem dX11_copy_120 : decode cX11_copy 120 = .ok (.iload 4, 2) := by decide +kernel
theorem dX11_copy_122 : decode cX11_copy 122 = .ok (.iload 5, 2) := by decide +kernel
theorem dX11_copy_124 : decode cX11_copy 124 = .ok (.invokestatic 129, 3) := by decide +kernel
theorem dX11_copy_127 : decode cX11_copy 127 = .ok (.aload_n 0, 1) := by decide +kernel
theorem dX11_copy_128 : decode cX11_copy 128 = .ok (.iload 5, 2) := by decide +kernel
theorem dX11_copy_130 : decode cX11_copy 130 = .ok (.invokevirtual 109, 3) := by decide +kernel
theorem dX11_copy_133 : decode cX11_copy 133 = .ok (.ireturn, 1) := by decide +kernel
theorem dX11_drop_0 : decode cX11_drop 0 = .ok (.iload_n 1, 1) := by decide +kernel
theorem dX11_drop_1 : decode cX11_drop 1 = .ok (.iconst 0, 1) := by decide +kernel
theorem dX11_drop_2 : decode cX11_drop 2 = .ok (.bipush 7, 2) := by decide +kernel
theorem dX11_drop_4 : decode cX11_drop 4 = .ok (.invokestatic 96, 3) := by decide +kernel
theorem dX11_drop_7 : decode cX11_drop 7 = .ok (.ifCond .ne 6, 3) := by decide +kernel
theorem dX11_drop_10 : decode cX11_drop 10 = .ok (.ldc 100, 2) := by decide +kernel
theorem dX11_drop_12 : decode cX11_drop 12 = .ok (.ireturn, 1) := by decide +kernel
theorem dX11_drop_13 : decode cX11_drop 13 = .ok (.aload_n 0, 1) := by decide +kernel
theorem dX11_drop_14 : decode cX11_drop 14 = .ok (.getfield 11, 3) := by decide +kernel
theorem dX11_drop_17 : decode cX11_drop 17 = .ok (.iload_n 1, 1) := by decide +kernel
theorem dX11_drop_18 : decode cX11_drop 18 = .ok (.aaload, 1) := by decide +kernel
theorem dX11_drop_19 : decode cX11_drop 19 = .ok (.astore_n 2, 1) := by decide +kernel
theorem dX11_drop_20 : decode cX11_drop 20 = .ok (.aload_n 2, 1) := by decide +kernel
theorem dX11_drop_21 : decode cX11_drop 21 = .ok (.invokevirtual 112, 3) := by decide +kernel
theorem dX11_drop_24 : decode cX11_drop 24 = .ok (.ifCond .eq 9, 3) := by decide +kernel
theorem dX11_drop_27 : decode cX11_drop 27 = .ok (.aload_n 0, 1) := by decide +kernel
theorem dX11_drop_28 : decode cX11_drop 28 = .ok (.iconst 1, 1) := by decide +kernel
theorem dX11_drop_29 : decode cX11_drop 29 = .ok (.invokevirtual 101, 3) := by decide +kernel
theorem dX11_drop_32 : decode cX11_drop 32 = .ok (.ireturn, 1) := by decide +kernel
theorem dX11_drop_33 : decode cX11_drop 33 = .ok (.aload_n 2, 1) := by decide +kernel
theorem dX11_drop_34 : decode cX11_drop 34 = .ok (.getfield 135, 3) := by decide +kernel
theorem dX11_drop_37 : decode cX11_drop 37 = .ok (.istore_n 3, 1) := by decide +kernel
theorem dX11_drop_38 : decode cX11_drop 38 = .ok (.aload_n 2, 1) := by decide +kernel
theorem dX11_drop_39 : decode cX11_drop 39 = .ok (.invokevirtual 138, 3) := by decide +kernel
theorem dX11_drop_42 : decode cX11_drop 42 = .ok (.aload_n 0, 1) := by decide +kernel
theorem dX11_drop_43 : decode cX11_drop 43 = .ok (.iload_n 3, 1) := by decide +kernel
theorem dX11_drop_44 : decode cX11_drop 44 = .ok (.invokevirtual 109, 3) := by decide +kernel
theorem dX11_drop_47 : decode cX11_drop 47 = .ok (.ireturn, 1) := by decide +kernel
theorem dX11_feed_0 : decode cX11_feed 0 = .ok (.iload_n 1, 1) := by decide +kernel
theorem dX11_feed_1 : decode cX11_feed 1 = .ok (.iconst 0, 1) := by decide +kernel
theorem dX11_feed_2 : decode cX11_feed 2 = .ok (.sipush 255, 3) := by decide +kernel
theorem dX11_feed_5 : decode cX11_feed 5 = .ok (.invokestatic 96, 3) := by decide +kernel
theorem dX11_feed_8 : decode cX11_feed 8 = .ok (.ifCond .ne 6, 3) := by decide +kernel
theorem dX11_feed_11 : decode cX11_feed 11 = .ok (.ldc 100, 2) := by decide +kernel
theorem dX11_feed_13 : decode cX11_feed 13 = .ok (.ireturn, 1) := by decide +kernel
theorem dX11_feed_14 : decode cX11_feed 14 = .ok (.aload_n 0, 1) := by decide +kernel
theorem dX11_feed_15 : decode cX11_feed 15 = .ok (.getfield 18, 3) := by decide +kernel
theorem dX11_feed_18 : decode cX11_feed 18 = .ok (.getfield 141, 3) := by decide +kernel
theorem dX11_feed_21 : decode cX11_feed 21 = .ok (.bipush 100, 2) := by decide +kernel
theorem dX11_feed_23 : decode cX11_feed 23 = .ok (.if_icmp .lt 6, 3) := by decide +kernel
theorem dX11_feed_26 : decode cX11_feed 26 = .ok (.ldc 144, 2) := by decide +kernel
theorem dX11_feed_28 : decode cX11_feed 28 = .ok (.ireturn, 1) := by decide +kernel
theorem dX11_feed_29 : decode cX11_feed 29 = .ok (.aload_n 0, 1) := by decide +kernel
theorem dX11_feed_30 : decode cX11_feed 30 = .ok (.getfield 18, 3) := by decide +kernel
theorem dX11_feed_33 : decode cX11_feed 33 = .ok (.getfield 145, 3) := by decide +kernel
theorem dX11_feed_36 : decode cX11_feed 36 = .ok (.aload_n 0, 1) := by decide +kernel
theorem dX11_feed_37 : decode cX11_feed 37 = .ok (.getfield 18, 3) := by decide +kernel
theorem dX11_feed_40 : decode cX11_feed 40 = .ok (.getfield 141, 3) := by decide +kernel
theorem dX11_feed_43 : decode cX11_feed 43 = .ok (.iload_n 1, 1) := by decide +kernel
theorem dX11_feed_44 : decode cX11_feed 44 = .ok (.iastore, 1) := by decide +kernel
theorem dX11_feed_45 : decode cX11_feed 45 = .ok (.aload_n 0, 1) := by decide +kernel
theorem dX11_feed_46 : decode cX11_feed 46 = .ok (.getfield 18, 3) := by decide +kernel
theorem dX11_feed_49 : decode cX11_feed 49 = .ok (.dup, 1) := by decide +kernel
theorem dX11_feed_50 : decode cX11_feed 50 = .ok (.getfield 141, 3) := by decide +kernel
theorem dX11_feed_53 : decode cX11_feed 53 = .ok (.iconst 1, 1) := by decide +kernel
theorem dX11_feed_54 : decode cX11_feed 54 = .ok (.iadd, 1) := by decide +kernel
theorem dX11_feed_55 : decode cX11_feed 55 = .ok (.putfield 141, 3) := by decide +kernel
theorem dX11_feed_58 : decode cX11_feed 58 = .ok (.aload_n 0, 1) := by decide +kernel
theorem dX11_feed_59 : decode cX11_feed 59 = .ok (.getfield 18, 3) := by decide +kernel
theorem dX11_feed_62 : decode cX11_feed 62 = .ok (.getfield 141, 3) := by decide +kernel
theorem dX11_feed_65 : decode cX11_feed 65 = .ok (.ireturn, 1) := by decide +kernel
theorem dX11_realm_0 : decode cX11_realm 0 = .ok (.aload_n 0, 1) := by decide +kernel
theorem dX11_realm_1 : decode cX11_realm 1 = .ok (.getfield 18, 3) := by decide +kernel
theorem dX11_realm_4 : decode cX11_realm 4 = .ok (.aload_n 0, 1) := by decide +kernel
theorem dX11_realm_5 : decode cX11_realm 5 = .ok (.getfield 92, 3) := by decide +kernel
theorem dX11_realm_8 : decode cX11_realm 8 = .ok (.aload_n 0, 1) := by decide +kernel
theorem dX11_realm_9 : decode cX11_realm 9 = .ok (.getfield 24, 3) := by decide +kernel
theorem dX11_realm_12 : decode cX11_realm 12 = .ok (.invokevirtual 148, 3) := by decide +kernel
theorem dX11_realm_15 : decode cX11_realm 15 = .ok (.aload_n 0, 1) := by decide +kernel
theorem dX11_realm_16 : decode cX11_realm 16 = .ok (.getfield 18, 3) := by decide +kernel
theorem dX11_realm_19 : decode cX11_realm 19 = .ok (.getfield 152, 3) := by decide +kernel
theorem dX11_realm_22 : decode cX11_realm 22 = .ok (.ifCond .eq 25, 3) := by decide +kernel
theorem dX11_realm_25 : decode cX11_realm 25 = .ok (.aload_n 0, 1) := by decide +kernel
theorem dX11_realm_26 : decode cX11_realm 26 = .ok (.aload_n 0, 1) := by decide +kernel
theorem dX11_realm_27 : decode cX11_realm 27 = .ok (.getfield 18, 3) := by decide +kernel
theorem dX11_realm_30 : decode cX11_realm 30 = .ok (.getfield 152, 3) := by decide +kernel
theorem dX11_realm_33 : decode cX11_realm 33 = .ok (.putfield 64, 3) := by decide +kernel
theorem dX11_realm_36 : decode cX11_realm 36 = .ok (.ldc 155, 2) := by decide +kernel
theorem dX11_realm_38 : decode cX11_realm 38 = .ok (.aload_n 0, 1) := by decide +kernel
theorem dX11_realm_39 : decode cX11_realm 39 = .ok (.getfield 18, 3) := by decide +kernel
theorem dX11_realm_42 : decode cX11_realm 42 = .ok (.getfield 156, 3) := by decide +kernel
theorem dX11_realm_45 : decode cX11_realm 45 = .ok (.isub, 1) := by decide +kernel
theorem dX11_realm_46 : decode cX11_realm 46 = .ok (.ireturn, 1) := by decide +kernel
theorem dX11_realm_47 : decode cX11_realm 47 = .ok (.aload_n 0, 1) := by decide +kernel
theorem dX11_realm_48 : decode cX11_realm 48 = .ok (.getfield 88, 3) := by decide +kernel
theorem dX11_realm_51 : decode cX11_realm 51 = .ok (.aload_n 0, 1) := by decide +kernel
theorem dX11_realm_52 : decode cX11_realm 52 = .ok (.getfield 92, 3) := by decide +kernel
theorem dX11_realm_55 : decode cX11_realm 55 = .ok (.invokevirtual 159, 3) := by decide +kernel
theorem dX11_realm_58 : decode cX11_realm 58 = .ok (.aload_n 0, 1) := by decide +kernel
theorem dX11_realm_59 : decode cX11_realm 59 = .ok (.invokevirtual 163, 3) := by decide +kernel
theorem dX11_realm_62 : decode cX11_realm 62 = .ok (.aload_n 0, 1) := by decide +kernel
theorem dX11_realm_63 : decode cX11_realm 63 = .ok (.getfield 88, 3) := by decide +kernel
theorem dX11_realm_66 : decode cX11_realm 66 = .ok (.getfield 166, 3) := by decide +kernel
theorem dX11_realm_69 : decode cX11_realm 69 = .ok (.ireturn, 1) := by decide +kernel
theorem dX11_fault_0 : decode cX11_fault 0 = .ok (.aload_n 0, 1) := by decide +kernel
theorem dX11_fault_1 : decode cX11_fault 1 = .ok (.getfield 64, 3) := by decide +kernel
theorem dX11_fault_4 : decode cX11_fault 4 = .ok (.ireturn, 1) := by decide +kernel
theorem dX11_undo_0 : decode cX11_undo 0 = .ok (.aload_n 0, 1) := by decide +kernel
theorem dX11_undo_1 : decode cX11_undo 1 = .ok (.getfield 44, 3) := by decide +kernel
theorem dX11_undo_4 : decode cX11_undo 4 = .ok (.ifCond .ne 6, 3) := by decide +kernel
theorem dX11_undo_7 : decode cX11_undo 7 = .ok (.ldc 169, 2) := by decide +kernel
theorem dX11_undo_9 : decode cX11_undo 9 = .ok (.ireturn, 1) := by decide +kernel
theorem dX11_undo_10 : decode cX11_undo 10 = .ok (.aload_n 0, 1) := by decide +kernel
theorem dX11_undo_11 : decode cX11_undo 11 = .ok (.aload_n 0, 1) := by decide +kernel
theorem dX11_undo_12 : decode cX11_undo 12 = .ok (.getfield 48, 3) := by decide +kernel
theorem dX11_undo_15 : decode cX11_undo 15 = .ok (.ifCond .ne 8, 3) := by decide +kernel
theorem dX11_undo_18 : decode cX11_undo 18 = .ok (.bipush 23, 2) := by decide +kernel
theorem dX11_undo_20 : decode cX11_undo 20 = .ok (.goto 9, 3) := by decide +kernel
theorem dX11_undo_23 : decode cX11_undo 23 = .ok (.aload_n 0, 1) := by decide +kernel
theorem dX11_undo_24 : decode cX11_undo 24 = .ok (.getfield 48, 3) := by decide +kernel
theorem dX11_undo_27 : decode cX11_undo 27 = .ok (.iconst 1, 1) := by decide +kernel
theorem dX11_undo_28 : decode cX11_undo 28 = .ok (.isub, 1) := by decide +kernel
theorem dX11_undo_29 : decode cX11_undo 29 = .ok (.putfield 48, 3) := by decide +kernel
theorem dX11_undo_32 : decode cX11_undo 32 = .ok (.aload_n 0, 1) := by decide +kernel
theorem dX11_undo_33 : decode cX11_undo 33 = .ok (.dup, 1) := by decide +kernel
theorem dX11_undo_34 : decode cX11_undo 34 = .ok (.getfield 44, 3) := by decide +kernel
theorem dX11_undo_37 : decode cX11_undo 37 = .ok (.iconst 1, 1) := by decide +kernel
theorem dX11_undo_38 : decode cX11_undo 38 = .ok (.isub, 1) := by decide +kernel
theorem dX11_undo_39 : decode cX11_undo 39 = .ok (.putfield 44, 3) := by decide +kernel
theorem dX11_undo_42 : decode cX11_undo 42 = .ok (.aload_n 0, 1) := by decide +kernel
theorem dX11_undo_43 : decode cX11_undo 43 = .ok (.getfield 88, 3) := by decide +kernel
theorem dX11_undo_46 : decode cX11_undo 46 = .ok (.aload_n 0, 1) := by decide +kernel
theorem dX11_undo_47 : decode cX11_undo 47 = .ok (.getfield 41, 3) := by decide +kernel
theorem dX11_undo_50 : decode cX11_undo 50 = .ok (.aload_n 0, 1) := by decide +kernel
theorem dX11_undo_51 : decode cX11_undo 51 = .ok (.getfield 48, 3) := by decide +kernel
theorem dX11_undo_54 : decode cX11_undo 54 = .ok (.aaload, 1) := by decide +kernel
theorem dX11_undo_55 : decode cX11_undo 55 = .ok (.invokevirtual 159, 3) := by decide +kernel
theorem dX11_undo_58 : decode cX11_undo 58 = .ok (.aload_n 0, 1) := by decide +kernel
theorem dX11_undo_59 : decode cX11_undo 59 = .ok (.getfield 44, 3) := by decide +kernel
theorem dX11_undo_62 : decode cX11_undo 62 = .ok (.ireturn, 1) := by decide +kernel
theorem dX11_speak_0 : decode cX11_speak 0 = .ok (.aload_n 0, 1) := by decide +kernel
theorem dX11_speak_1 : decode cX11_speak 1 = .ok (.iload_n 1, 1) := by decide +kernel
theorem dX11_speak_2 : decode cX11_speak 2 = .ok (.invokevirtual 170, 3) := by decide +kernel
theorem dX11_speak_5 : decode cX11_speak 5 = .ok (.ifCond .eq 23, 3) := by decide +kernel
theorem dX11_speak_8 : decode cX11_speak 8 = .ok (.iload_n 2, 1) := by decide +kernel
theorem dX11_speak_9 : decode cX11_speak 9 = .ok (.iconst 0, 1) := by decide +kernel
theorem dX11_speak_10 : decode cX11_speak 10 = .ok (.bipush 18, 2) := by decide +kernel
theorem dX11_speak_12 : decode cX11_speak 12 = .ok (.invokestatic 96, 3) := by decide +kernel
theorem dX11_speak_15 : decode cX11_speak 15 = .ok (.ifCond .eq 13, 3) := by decide +kernel
theorem dX11_speak_18 : decode cX11_speak 18 = .ok (.iload_n 3, 1) := by decide +kernel
theorem dX11_speak_19 : decode cX11_speak 19 = .ok (.iconst 0, 1) := by decide +kernel
theorem dX11_speak_20 : decode cX11_speak 20 = .ok (.bipush 40, 2) := by decide +kernel
theorem dX11_speak_22 : decode cX11_speak 22 = .ok (.invokestatic 96, 3) := by decide +kernel
theorem dX11_speak_25 : decode cX11_speak 25 = .ok (.ifCond .ne 6, 3) := by decide +kernel
theorem dX11_speak_28 : decode cX11_speak 28 = .ok (.ldc 100, 2) := by decide +kernel
theorem dX11_speak_30 : decode cX11_speak 30 = .ok (.ireturn, 1) := by decide +kernel
theorem dX11_speak_31 : decode cX11_speak 31 = .ok (.aload_n 0, 1) := by decide +kernel
theorem dX11_speak_32 : decode cX11_speak 32 = .ok (.getfield 88, 3) := by decide +kernel
theorem dX11_speak_35 : decode cX11_speak 35 = .ok (.getfield 174, 3) := by decide +kernel
theorem dX11_speak_38 : decode cX11_speak 38 = .ok (.ifCond .eq 6, 3) := by decide +kernel
theorem dX11_speak_41 : decode cX11_speak 41 = .ok (.ldc 169, 2) := by decide +kernel
theorem dX11_speak_43 : decode cX11_speak 43 = .ok (.ireturn, 1) := by decide +kernel
theorem dX11_speak_44 : decode cX11_speak 44 = .ok (.aload_n 0, 1) := by decide +kernel
theorem dX11_speak_45 : decode cX11_speak 45 = .ok (.getfield 88, 3) := by decide +kernel
theorem dX11_speak_48 : decode cX11_speak 48 = .ok (.iload_n 1, 1) := by decide +kernel
theorem dX11_speak_49 : decode cX11_speak 49 = .ok (.invokevirtual 178, 3) := by decide +kernel
theorem dX11_speak_52 : decode cX11_speak 52 = .ok (.istore 4, 2) := by decide +kernel
theorem dX11_speak_54 : decode cX11_speak 54 = .ok (.aload_n 0, 1) := by decide +kernel
theorem dX11_speak_55 : decode cX11_speak 55 = .ok (.invokevirtual 181, 3) := by decide +kernel
theorem dX11_speak_58 : decode cX11_speak 58 = .ok (.aload_n 0, 1) := by decide +kernel
theorem dX11_speak_59 : decode cX11_speak 59 = .ok (.getfield 88, 3) := by decide +kernel
theorem dX11_speak_62 : decode cX11_speak 62 = .ok (.getfield 184, 3) := by decide +kernel
theorem dX11_speak_65 : decode cX11_speak 65 = .ok (.iload_n 1, 1) := by decide +kernel
theorem dX11_speak_66 : decode cX11_speak 66 = .ok (.aaload, 1) := by decide +kernel
theorem dX11_speak_67 : decode cX11_speak 67 = .ok (.iload_n 2, 1) := by decide +kernel
theorem dX11_speak_68 : decode cX11_speak 68 = .ok (.iload_n 3, 1) := by decide +kernel
theorem dX11_speak_69 : decode cX11_speak 69 = .ok (.invokevirtual 188, 3) := by decide +kernel
theorem dX11_speak_72 : decode cX11_speak 72 = .ok (.iload 4, 2) := by decide +kernel
theorem dX11_speak_74 : decode cX11_speak 74 = .ok (.ireturn, 1) := by decide +kernel
theorem dX11_part_0 : decode cX11_part 0 = .ok (.aload_n 0, 1) := by decide +kernel
theorem dX11_part_1 : decode cX11_part 1 = .ok (.invokevirtual 193, 3) := by decide +kernel
theorem dX11_part_4 : decode cX11_part 4 = .ok (.ifCond .ne 13, 3) := by decide +kernel
theorem dX11_part_7 : decode cX11_part 7 = .ok (.aload_n 0, 1) := by decide +kernel
theorem dX11_part_8 : decode cX11_part 8 = .ok (.getfield 88, 3) := by decide +kernel
theorem dX11_part_11 : decode cX11_part 11 = .ok (.getfield 174, 3) := by decide +kernel
theorem dX11_part_14 : decode cX11_part 14 = .ok (.ifCond .eq 6, 3) := by decide +kernel
theorem dX11_part_17 : decode cX11_part 17 = .ok (.ldc 169, 2) := by decide +kernel
theorem dX11_part_19 : decode cX11_part 19 = .ok (.ireturn, 1) := by decide +kernel
theorem dX11_part_20 : decode cX11_part 20 = .ok (.aload_n 0, 1) := by decide +kernel
theorem dX11_part_21 : decode cX11_part 21 = .ok (.invokevirtual 181, 3) := by decide +kernel
theorem dX11_part_24 : decode cX11_part 24 = .ok (.aload_n 0, 1) := by decide +kernel
theorem dX11_part_25 : decode cX11_part 25 = .ok (.getfield 88, 3) := by decide +kernel
theorem dX11_part_28 : decode cX11_part 28 = .ok (.aload_n 0, 1) := by decide +kernel
theorem dX11_part_29 : decode cX11_part 29 = .ok (.getfield 88, 3) := by decide +kernel
theorem dX11_part_32 : decode cX11_part 32 = .ok (.getfield 196, 3) := by decide +kernel
theorem dX11_part_35 : decode cX11_part 35 = .ok (.aload_n 0, 1) := by decide +kernel
theorem dX11_part_36 : decode cX11_part 36 = .ok (.getfield 55, 3) := by decide +kernel
theorem dX11_part_39 : decode cX11_part 39 = .ok (.invokevirtual 199, 3) := by decide +kernel
theorem dX11_part_42 : decode cX11_part 42 = .ok (.iconst 0, 1) := by decide +kernel
theorem dX11_part_43 : decode cX11_part 43 = .ok (.istore_n 1, 1) := by decide +kernel
theorem dX11_part_44 : decode cX11_part 44 = .ok (.iload_n 1, 1) := by decide +kernel
theorem dX11_part_45 : decode cX11_part 45 = .ok (.aload_n 0, 1) := by decide +kernel
theorem dX11_part_46 : decode cX11_part 46 = .ok (.getfield 88, 3) := by decide +kernel
theorem dX11_part_49 : decode cX11_part 49 = .ok (.getfield 166, 3) := by decide +kernel
theorem dX11_part_52 : decode cX11_part 52 = .ok (.if_icmp .ge 27, 3) := by decide +kernel
theorem dX11_part_55 : decode cX11_part 55 = .ok (.aload_n 0, 1) := by decide +kernel
theorem dX11_part_56 : decode cX11_part 56 = .ok (.getfield 88, 3) := by decide +kernel
theorem dX11_part_59 : decode cX11_part 59 = .ok (.getfield 184, 3) := by decide +kernel
theorem dX11_part_62 : decode cX11_part 62 = .ok (.iload_n 1, 1) := by decide +kernel
theorem dX11_part_63 : decode cX11_part 63 = .ok (.aaload, 1) := by decide +kernel
theorem dX11_part_64 : decode cX11_part 64 = .ok (.aload_n 0, 1) := by decide +kernel
theorem dX11_part_65 : decode cX11_part 65 = .ok (.getfield 55, 3) := by decide +kernel
theorem dX11_part_68 : decode cX11_part 68 = .ok (.iload_n 1, 1) := by decide +kernel
theorem dX11_part_69 : decode cX11_part 69 = .ok (.iaload, 1) := by decide +kernel
theorem dX11_part_70 : decode cX11_part 70 = .ok (.putfield 203, 3) := by decide +kernel
theorem dX11_part_73 : decode cX11_part 73 = .ok (.iinc 1 1, 3) := by decide +kernel
theorem dX11_part_76 : decode cX11_part 76 = .ok (.goto (-32), 3) := by decide +kernel
theorem dX11_part_79 : decode cX11_part 79 = .ok (.aload_n 0, 1) := by decide +kernel
theorem dX11_part_80 : decode cX11_part 80 = .ok (.getfield 88, 3) := by decide +kernel
theorem dX11_part_83 : decode cX11_part 83 = .ok (.iconst 1, 1) := by decide +kernel
theorem dX11_part_84 : decode cX11_part 84 = .ok (.putfield 174, 3) := by decide +kernel
theorem dX11_part_87 : decode cX11_part 87 = .ok (.aload_n 0, 1) := by decide +kernel
theorem dX11_part_88 : decode cX11_part 88 = .ok (.getfield 55, 3) := by decide +kernel
theorem dX11_part_91 : decode cX11_part 91 = .ok (.aload_n 0, 1) := by decide +kernel
theorem dX11_part_92 : decode cX11_part 92 = .ok (.getfield 88, 3) := by decide +kernel
theorem dX11_part_95 : decode cX11_part 95 = .ok (.getfield 166, 3) := by decide +kernel
theorem dX11_part_98 : decode cX11_part 98 = .ok (.invokestatic 206, 3) := by decide +kernel
theorem dX11_part_101 : decode cX11_part 101 = .ok (.ireturn, 1) := by decide +kernel
theorem dX11_rule_0 : decode cX11_rule 0 = .ok (.aload_n 0, 1) := by decide +kernel
theorem dX11_rule_1 : decode cX11_rule 1 = .ok (.invokevirtual 193, 3) := by decide +kernel
theorem dX11_rule_4 : decode cX11_rule 4 = .ok (.ifCond .eq 6, 3) := by decide +kernel
theorem dX11_rule_7 : decode cX11_rule 7 = .ok (.ldc 169, 2) := by decide +kernel
theorem dX11_rule_9 : decode cX11_rule 9 = .ok (.ireturn, 1) := by decide +kernel
theorem dX11_rule_10 : decode cX11_rule 10 = .ok (.iload_n 1, 1) := by decide +kernel
theorem dX11_rule_11 : decode cX11_rule 11 = .ok (.iconst 0, 1) := by decide +kernel
theorem dX11_rule_12 : decode cX11_rule 12 = .ok (.iconst 3, 1) := by decide +kernel
theorem dX11_rule_13 : decode cX11_rule 13 = .ok (.invokestatic 96, 3) := by decide +kernel
theorem dX11_rule_16 : decode cX11_rule 16 = .ok (.ifCond .ne 6, 3) := by decide +kernel
theorem dX11_rule_19 : decode cX11_rule 19 = .ok (.ldc 100, 2) := by decide +kernel
theorem dX11_rule_21 : decode cX11_rule 21 = .ok (.ireturn, 1) := by decide +kernel
theorem dX11_rule_22 : decode cX11_rule 22 = .ok (.aload_n 0, 1) := by decide +kernel
theorem dX11_rule_23 : decode cX11_rule 23 = .ok (.getfield 88, 3) := by decide +kernel
theorem dX11_rule_26 : decode cX11_rule 26 = .ok (.getfield 174, 3) := by decide +kernel
theorem dX11_rule_29 : decode cX11_rule 29 = .ok (.ifCond .eq 6, 3) := by decide +kernel
theorem dX11_rule_32 : decode cX11_rule 32 = .ok (.ldc 169, 2) := by decide +kernel
theorem dX11_rule_34 : decode cX11_rule 34 = .ok (.ireturn, 1) := by decide +kernel
theorem dX11_rule_35 : decode cX11_rule 35 = .ok (.aload_n 0, 1) := by decide +kernel
theorem dX11_rule_36 : decode cX11_rule 36 = .ok (.getfield 88, 3) := by decide +kernel
theorem dX11_rule_39 : decode cX11_rule 39 = .ok (.getfield 196, 3) := by decide +kernel
theorem dX11_rule_42 : decode cX11_rule 42 = .ok (.istore_n 2, 1) := by decide +kernel
theorem dX11_rule_43 : decode cX11_rule 43 = .ok (.aload_n 0, 1) := by decide +kernel
theorem dX11_rule_44 : decode cX11_rule 44 = .ok (.invokevirtual 181, 3) := by decide +kernel
theorem dX11_rule_47 : decode cX11_rule 47 = .ok (.aload_n 0, 1) := by decide +kernel
theorem dX11_rule_48 : decode cX11_rule 48 = .ok (.getfield 88, 3) := by decide +kernel
theorem dX11_rule_51 : decode cX11_rule 51 = .ok (.iload_n 1, 1) := by decide +kernel
theorem dX11_rule_52 : decode cX11_rule 52 = .ok (.putfield 196, 3) := by decide +kernel
theorem dX11_rule_55 : decode cX11_rule 55 = .ok (.iload_n 2, 1) := by decide +kernel
theorem dX11_rule_56 : decode cX11_rule 56 = .ok (.ireturn, 1) := by decide +kernel
theorem dX11_months_0 : decode cX11_months 0 = .ok (.aload_n 0, 1) := by decide +kernel
theorem dX11_months_1 : decode cX11_months 1 = .ok (.invokevirtual 193, 3) := by decide +kernel
theorem dX11_months_4 : decode cX11_months 4 = .ok (.ifCond .eq 6, 3) := by decide +kernel
theorem dX11_months_7 : decode cX11_months 7 = .ok (.ldc 169, 2) := by decide +kernel
theorem dX11_months_9 : decode cX11_months 9 = .ok (.ireturn, 1) := by decide +kernel
theorem dX11_months_10 : decode cX11_months 10 = .ok (.iload_n 1, 1) := by decide +kernel
theorem dX11_months_11 : decode cX11_months 11 = .ok (.iconst 1, 1) := by decide +kernel
theorem dX11_months_12 : decode cX11_months 12 = .ok (.bipush 24, 2) := by decide +kernel
theorem dX11_months_14 : decode cX11_months 14 = .ok (.invokestatic 96, 3) := by decide +kernel
theorem dX11_months_17 : decode cX11_months 17 = .ok (.ifCond .ne 6, 3) := by decide +kernel
theorem dX11_months_20 : decode cX11_months 20 = .ok (.ldc 100, 2) := by decide +kernel
theorem dX11_months_22 : decode cX11_months 22 = .ok (.ireturn, 1) := by decide +kernel
theorem dX11_months_23 : decode cX11_months 23 = .ok (.aload_n 0, 1) := by decide +kernel
theorem dX11_months_24 : decode cX11_months 24 = .ok (.getfield 88, 3) := by decide +kernel
theorem dX11_months_27 : decode cX11_months 27 = .ok (.getfield 174, 3) := by decide +kernel
theorem dX11_months_30 : decode cX11_months 30 = .ok (.ifCond .ne 6, 3) := by decide +kernel
theorem dX11_months_33 : decode cX11_months 33 = .ok (.ldc 169, 2) := by decide +kernel
theorem dX11_months_35 : decode cX11_months 35 = .ok (.ireturn, 1) := by decide +kernel
theorem dX11_months_36 : decode cX11_months 36 = .ok (.aload_n 0, 1) := by decide +kernel
theorem dX11_months_37 : decode cX11_months 37 = .ok (.getfield 88, 3) := by decide +kernel
theorem dX11_months_40 : decode cX11_months 40 = .ok (.getfield 210, 3) := by decide +kernel
theorem dX11_months_43 : decode cX11_months 43 = .ok (.iload_n 1, 1) := by decide +kernel
theorem dX11_months_44 : decode cX11_months 44 = .ok (.iadd, 1) := by decide +kernel
theorem dX11_months_45 : decode cX11_months 45 = .ok (.sipush 999, 3) := by decide +kernel
theorem dX11_months_48 : decode cX11_months 48 = .ok (.if_icmp .le 6, 3) := by decide +kernel
theorem dX11_months_51 : decode cX11_months 51 = .ok (.ldc 144, 2) := by decide +kernel
theorem dX11_months_53 : decode cX11_months 53 = .ok (.ireturn, 1) := by decide +kernel
theorem dX11_months_54 : decode cX11_months 54 = .ok (.iconst 0, 1) := by decide +kernel
theorem dX11_months_55 : decode cX11_months 55 = .ok (.istore_n 2, 1) := by decide +kernel
theorem dX11_months_56 : decode cX11_months 56 = .ok (.iload_n 2, 1) := by decide +kernel
theorem dX11_months_57 : decode cX11_months 57 = .ok (.iload_n 1, 1) := by decide +kernel
theorem dX11_months_58 : decode cX11_months 58 = .ok (.if_icmp .ge 20, 3) := by decide +kernel
theorem dX11_months_61 : decode cX11_months 61 = .ok (.aload_n 0, 1) := by decide +kernel
theorem dX11_months_62 : decode cX11_months 62 = .ok (.invokevirtual 181, 3) := by decide +kernel
theorem dX11_months_65 : decode cX11_months 65 = .ok (.aload_n 0, 1) := by decide +kernel
theorem dX11_months_66 : decode cX11_months 66 = .ok (.getfield 88, 3) := by decide +kernel
theorem dX11_months_69 : decode cX11_months 69 = .ok (.invokevirtual 213, 3) := by decide +kernel
theorem dX11_months_72 : decode cX11_months 72 = .ok (.iinc 2 1, 3) := by decide +kernel
theorem dX11_months_75 : decode cX11_months 75 = .ok (.goto (-19), 3) := by decide +kernel
theorem dX11_months_78 : decode cX11_months 78 = .ok (.aload_n 0, 1) := by decide +kernel
theorem dX11_months_79 : decode cX11_months 79 = .ok (.getfield 88, 3) := by decide +kernel
theorem dX11_months_82 : decode cX11_months 82 = .ok (.getfield 216, 3) := by decide +kernel
theorem dX11_months_85 : decode cX11_months 85 = .ok (.ireturn, 1) := by decide +kernel
theorem dX11_letter_0 : decode cX11_letter 0 = .ok (.aload_n 0, 1) := by decide +kernel
theorem dX11_letter_1 : decode cX11_letter 1 = .ok (.iload_n 1, 1) := by decide +kernel
theorem dX11_letter_2 : decode cX11_letter 2 = .ok (.invokevirtual 170, 3) := by decide +kernel
theorem dX11_letter_5 : decode cX11_letter 5 = .ok (.ifCond .eq 16, 3) := by decide +kernel
theorem dX11_letter_8 : decode cX11_letter 8 = .ok (.aload_n 0, 1) := by decide +kernel
theorem dX11_letter_9 : decode cX11_letter 9 = .ok (.iload_n 2, 1) := by decide +kernel
theorem dX11_letter_10 : decode cX11_letter 10 = .ok (.invokevirtual 170, 3) := by decide +kernel
theorem dX11_letter_13 : decode cX11_letter 13 = .ok (.ifCond .eq 8, 3) := by decide +kernel
theorem dX11_letter_16 : decode cX11_letter 16 = .ok (.iload_n 1, 1) := by decide +kernel
theorem dX11_letter_17 : decode cX11_letter 17 = .ok (.iload_n 2, 1) := by decide +kernel
theorem dX11_letter_18 : decode cX11_letter 18 = .ok (.if_icmp .ne 6, 3) := by decide +kernel
theorem dX11_letter_21 : decode cX11_letter 21 = .ok (.ldc 100, 2) := by decide +kernel
theorem dX11_letter_23 : decode cX11_letter 23 = .ok (.ireturn, 1) := by decide +kernel
theorem dX11_letter_24 : decode cX11_letter 24 = .ok (.aload_n 0, 1) := by decide +kernel
theorem dX11_letter_25 : decode cX11_letter 25 = .ok (.invokevirtual 181, 3) := by decide +kernel
theorem dX11_letter_28 : decode cX11_letter 28 = .ok (.aload_n 0, 1) := by decide +kernel
theorem dX11_letter_29 : decode cX11_letter 29 = .ok (.getfield 88, 3) := by decide +kernel
theorem dX11_letter_32 : decode cX11_letter 32 = .ok (.getfield 184, 3) := by decide +kernel
theorem dX11_letter_35 : decode cX11_letter 35 = .ok (.iload_n 2, 1) := by decide +kernel
theorem dX11_letter_36 : decode cX11_letter 36 = .ok (.aaload, 1) := by decide +kernel
theorem dX11_letter_37 : decode cX11_letter 37 = .ok (.astore_n 3, 1) := by decide +kernel
theorem dX11_letter_38 : decode cX11_letter 38 = .ok (.aload_n 3, 1) := by decide +kernel
theorem dX11_letter_39 : decode cX11_letter 39 = .ok (.aload_n 3, 1) := by decide +kernel
theorem dX11_letter_40 : decode cX11_letter 40 = .ok (.getfield 219, 3) := by decide +kernel
theorem dX11_letter_43 : decode cX11_letter 43 = .ok (.aload_n 0, 1) := by decide +kernel
theorem dX11_letter_44 : decode cX11_letter 44 = .ok (.getfield 88, 3) := by decide +kernel
theorem dX11_letter_47 : decode cX11_letter 47 = .ok (.iload_n 1, 1) := by decide +kernel
theorem dX11_letter_48 : decode cX11_letter 48 = .ok (.invokevirtual 222, 3) := by decide +kernel
theorem dX11_letter_51 : decode cX11_letter 51 = .ok (.invokestatic 225, 3) := by decide +kernel
theorem dX11_letter_54 : decode cX11_letter 54 = .ok (.putfield 219, 3) := by decide +kernel
theorem dX11_letter_57 : decode cX11_letter 57 = .ok (.aload_n 0, 1) := by decide +kernel
theorem dX11_letter_58 : decode cX11_letter 58 = .ok (.getfield 88, 3) := by decide +kernel
theorem dX11_letter_61 : decode cX11_letter 61 = .ok (.iload_n 2, 1) := by decide +kernel
theorem dX11_letter_62 : decode cX11_letter 62 = .ok (.invokevirtual 222, 3) := by decide +kernel
theorem dX11_letter_65 : decode cX11_letter 65 = .ok (.ireturn, 1) := by decide +kernel
theorem dX11_heir_0 : decode cX11_heir 0 = .ok (.aload_n 0, 1) := by decide +kernel
theorem dX11_heir_1 : decode cX11_heir 1 = .ok (.iload_n 1, 1) := by decide +kernel
theorem dX11_heir_2 : decode cX11_heir 2 = .ok (.invokevirtual 170, 3) := by decide +kernel
theorem dX11_heir_5 : decode cX11_heir 5 = .ok (.ifCond .ne 6, 3) := by decide +kernel
theorem dX11_heir_8 : decode cX11_heir 8 = .ok (.ldc 100, 2) := by decide +kernel
theorem dX11_heir_10 : decode cX11_heir 10 = .ok (.ireturn, 1) := by decide +kernel
theorem dX11_heir_11 : decode cX11_heir 11 = .ok (.aload_n 0, 1) := by decide +kernel
theorem dX11_heir_12 : decode cX11_heir 12 = .ok (.getfield 88, 3) := by decide +kernel
theorem dX11_heir_15 : decode cX11_heir 15 = .ok (.getfield 184, 3) := by decide +kernel
theorem dX11_heir_18 : decode cX11_heir 18 = .ok (.iload_n 1, 1) := by decide +kernel
theorem dX11_heir_19 : decode cX11_heir 19 = .ok (.aaload, 1) := by decide +kernel
theorem dX11_heir_20 : decode cX11_heir 20 = .ok (.astore_n 3, 1) := by decide +kernel
theorem dX11_heir_21 : decode cX11_heir 21 = .ok (.iload_n 2, 1) := by decide +kernel
theorem dX11_heir_22 : decode cX11_heir 22 = .ok (.tableswitch 111 0 8 #[50, 55, 60, 73, 82, 87, 92, 101, 106], 50) := by decide +kernel
theorem dX11_heir_72 : decode cX11_heir 72 = .ok (.aload_n 3, 1) := by decide +kernel
theorem dX11_heir_73 : decode cX11_heir 73 = .ok (.getfield 231, 3) := by decide +kernel
theorem dX11_heir_76 : decode cX11_heir 76 = .ok (.ireturn, 1) := by decide +kernel
theorem dX11_heir_77 : decode cX11_heir 77 = .ok (.aload_n 3, 1) := by decide +kernel
theorem dX11_heir_78 : decode cX11_heir 78 = .ok (.getfield 234, 3) := by decide +kernel
theorem dX11_heir_81 : decode cX11_heir 81 = .ok (.ireturn, 1) := by decide +kernel
theorem dX11_heir_82 : decode cX11_heir 82 = .ok (.aload_n 3, 1) := by decide +kernel
theorem dX11_heir_83 : decode cX11_heir 83 = .ok (.getfield 237, 3) := by decide +kernel
theorem dX11_heir_86 : decode cX11_heir 86 = .ok (.ifCond .eq 7, 3) := by decide +kernel
theorem dX11_heir_89 : decode cX11_heir 89 = .ok (.iconst 1, 1) := by decide +kernel
theorem dX11_heir_90 : decode cX11_heir 90 = .ok (.goto 4, 3) := by decide +kernel
theorem dX11_heir_93 : decode cX11_heir 93 = .ok (.iconst 0, 1) := by decide +kernel
theorem dX11_heir_94 : decode cX11_heir 94 = .ok (.ireturn, 1) := by decide +kernel
theorem dX11_heir_95 : decode cX11_heir 95 = .ok (.aload_n 0, 1) := by decide +kernel
theorem dX11_heir_96 : decode cX11_heir 96 = .ok (.getfield 88, 3) := by decide +kernel
theorem dX11_heir_99 : decode cX11_heir 99 = .ok (.iload_n 1, 1) := by decide +kernel
theorem dX11_heir_100 : decode cX11_heir 100 = .ok (.invokevirtual 240, 3) := by decide +kernel
theorem dX11_heir_103 : decode cX11_heir 103 = .ok (.ireturn, 1) := by decide +kernel
theorem dX11_heir_104 : decode cX11_heir 104 = .ok (.aload_n 3, 1) := by decide +kernel
theorem dX11_heir_105 : decode cX11_heir 105 = .ok (.getfield 243, 3) := by decide +kernel
theorem dX11_heir_108 : decode cX11_heir 108 = .ok (.ireturn, 1) := by decide +kernel
theorem dX11_heir_109 : decode cX11_heir 109 = .ok (.aload_n 3, 1) := by decide +kernel
theorem dX11_heir_110 : decode cX11_heir 110 = .ok (.getfield 203, 3) := by decide +kernel
theorem dX11_heir_113 : decode cX11_heir 113 = .ok (.ireturn, 1) := by decide +kernel
theorem dX11_heir_114 : decode cX11_heir 114 = .ok (.aload_n 0, 1) := by decide +kernel
theorem dX11_heir_115 : decode cX11_heir 115 = .ok (.getfield 88, 3) := by decide +kernel
theorem dX11_heir_118 : decode cX11_heir 118 = .ok (.iload_n 1, 1) := by decide +kernel
theorem dX11_heir_119 : decode cX11_heir 119 = .ok (.invokevirtual 222, 3) := by decide +kernel
theorem dX11_heir_122 : decode cX11_heir 122 = .ok (.ireturn, 1) := by decide +kernel
theorem dX11_heir_123 : decode cX11_heir 123 = .ok (.aload_n 3, 1) := by decide +kernel
theorem dX11_heir_124 : decode cX11_heir 124 = .ok (.getfield 246, 3) := by decide +kernel
theorem dX11_heir_127 : decode cX11_heir 127 = .ok (.ireturn, 1) := by decide +kernel
theorem dX11_heir_128 : decode cX11_heir 128 = .ok (.aload_n 3, 1) := by decide +kernel
theorem dX11_heir_129 : decode cX11_heir 129 = .ok (.getfield 249, 3) := by decide +kernel
theorem dX11_heir_132 : decode cX11_heir 132 = .ok (.ireturn, 1) := by decide +kernel
theorem dX11_heir_133 : decode cX11_heir 133 = .ok (.ldc 100, 2) := by decide +kernel
theorem dX11_heir_135 : decode cX11_heir 135 = .ok (.ireturn, 1) := by decide +kernel
theorem dX11_king_0 : decode cX11_king 0 = .ok (.aload_n 0, 1) := by decide +kernel
theorem dX11_king_1 : decode cX11_king 1 = .ok (.invokevirtual 193, 3) := by decide +kernel
theorem dX11_king_4 : decode cX11_king 4 = .ok (.ifCond .eq 6, 3) := by decide +kernel
theorem dX11_king_7 : decode cX11_king 7 = .ok (.ldc 169, 2) := by decide +kernel
theorem dX11_king_9 : decode cX11_king 9 = .ok (.ireturn, 1) := by decide +kernel
theorem dX11_king_10 : decode cX11_king 10 = .ok (.iload_n 1, 1) := by decide +kernel
theorem dX11_king_11 : decode cX11_king 11 = .ok (.tableswitch 57 0 2 #[25, 33, 41], 25) := by decide +kernel
theorem dX11_king_36 : decode cX11_king 36 = .ok (.aload_n 0, 1) := by decide +kernel
theorem dX11_king_37 : decode cX11_king 37 = .ok (.getfield 88, 3) := by decide +kernel
theorem dX11_king_40 : decode cX11_king 40 = .ok (.getfield 216, 3) := by decide +kernel
theorem dX11_king_43 : decode cX11_king 43 = .ok (.ireturn, 1) := by decide +kernel
theorem dX11_king_44 : decode cX11_king 44 = .ok (.aload_n 0, 1) := by decide +kernel
theorem dX11_king_45 : decode cX11_king 45 = .ok (.getfield 88, 3) := by decide +kernel
theorem dX11_king_48 : decode cX11_king 48 = .ok (.getfield 252, 3) := by decide +kernel
theorem dX11_king_51 : decode cX11_king 51 = .ok (.ireturn, 1) := by decide +kernel
theorem dX11_king_52 : decode cX11_king 52 = .ok (.aload_n 0, 1) := by decide +kernel
theorem dX11_king_53 : decode cX11_king 53 = .ok (.getfield 88, 3) := by decide +kernel
theorem dX11_king_56 : decode cX11_king 56 = .ok (.getfield 174, 3) := by decide +kernel
theorem dX11_king_59 : decode cX11_king 59 = .ok (.ifCond .eq 7, 3) := by decide +kernel
theorem dX11_king_62 : decode cX11_king 62 = .ok (.iconst 1, 1) := by decide +kernel
theorem dX11_king_63 : decode cX11_king 63 = .ok (.goto 4, 3) := by decide +kernel
theorem dX11_king_66 : decode cX11_king 66 = .ok (.iconst 0, 1) := by decide +kernel
theorem dX11_king_67 : decode cX11_king 67 = .ok (.ireturn, 1) := by decide +kernel
theorem dX11_king_68 : decode cX11_king 68 = .ok (.ldc 100, 2) := by decide +kernel
theorem dX11_king_70 : decode cX11_king 70 = .ok (.ireturn, 1) := by decide +kernel
theorem dX11_share_0 : decode cX11_share 0 = .ok (.aload_n 0, 1) := by decide +kernel
theorem dX11_share_1 : decode cX11_share 1 = .ok (.iload_n 1, 1) := by decide +kernel
theorem dX11_share_2 : decode cX11_share 2 = .ok (.invokevirtual 170, 3) := by decide +kernel
theorem dX11_share_5 : decode cX11_share 5 = .ok (.ifCond .eq 12, 3) := by decide +kernel
theorem dX11_share_8 : decode cX11_share 8 = .ok (.iload_n 2, 1) := by decide +kernel
theorem dX11_share_9 : decode cX11_share 9 = .ok (.iconst 0, 1) := by decide +kernel
theorem dX11_share_10 : decode cX11_share 10 = .ok (.iconst 3, 1) := by decide +kernel
theorem dX11_share_11 : decode cX11_share 11 = .ok (.invokestatic 96, 3) := by decide +kernel
theorem dX11_share_14 : decode cX11_share 14 = .ok (.ifCond .ne 6, 3) := by decide +kernel
theorem dX11_share_17 : decode cX11_share 17 = .ok (.ldc 100, 2) := by decide +kernel
theorem dX11_share_19 : decode cX11_share 19 = .ok (.ireturn, 1) := by decide +kernel
theorem dX11_share_20 : decode cX11_share 20 = .ok (.aload_n 0, 1) := by decide +kernel
theorem dX11_share_21 : decode cX11_share 21 = .ok (.getfield 88, 3) := by decide +kernel
theorem dX11_share_24 : decode cX11_share 24 = .ok (.iload_n 2, 1) := by decide +kernel
theorem dX11_share_25 : decode cX11_share 25 = .ok (.aload_n 0, 1) := by decide +kernel
theorem dX11_share_26 : decode cX11_share 26 = .ok (.getfield 55, 3) := by decide +kernel
theorem dX11_share_29 : decode cX11_share 29 = .ok (.invokevirtual 199, 3) := by decide +kernel
theorem dX11_share_32 : decode cX11_share 32 = .ok (.aload_n 0, 1) := by decide +kernel
theorem dX11_share_33 : decode cX11_share 33 = .ok (.getfield 55, 3) := by decide +kernel
theorem dX11_share_36 : decode cX11_share 36 = .ok (.iload_n 1, 1) := by decide +kernel
theorem dX11_share_37 : decode cX11_share 37 = .ok (.iaload, 1) := by decide +kernel
theorem dX11_share_38 : decode cX11_share 38 = .ok (.ireturn, 1) := by decide +kernel
theorem dX11_best_0 : decode cX11_best 0 = .ok (.aload_n 0, 1) := by decide +kernel
theorem dX11_best_1 : decode cX11_best 1 = .ok (.iload_n 1, 1) := by decide +kernel
theorem dX11_best_2 : decode cX11_best 2 = .ok (.invokevirtual 170, 3) := by decide +kernel
theorem dX11_best_5 : decode cX11_best 5 = .ok (.ifCond .eq 12, 3) := by decide +kernel
theorem dX11_best_8 : decode cX11_best 8 = .ok (.iload_n 2, 1) := by decide +kernel
theorem dX11_best_9 : decode cX11_best 9 = .ok (.iconst 0, 1) := by decide +kernel
theorem dX11_best_10 : decode cX11_best 10 = .ok (.iconst 1, 1) := by decide +kernel
theorem dX11_best_11 : decode cX11_best 11 = .ok (.invokestatic 96, 3) := by decide +kernel
theorem dX11_best_14 : decode cX11_best 14 = .ok (.ifCond .ne 6, 3) := by decide +kernel
theorem dX11_best_17 : decode cX11_best 17 = .ok (.ldc 100, 2) := by decide +kernel
theorem dX11_best_19 : decode cX11_best 19 = .ok (.ireturn, 1) := by decide +kernel
theorem dX11_best_20 : decode cX11_best 20 = .ok (.aload_n 0, 1) := by decide +kernel
theorem dX11_best_21 : decode cX11_best 21 = .ok (.iload_n 1, 1) := by decide +kernel
theorem dX11_best_22 : decode cX11_best 22 = .ok (.invokevirtual 255, 3) := by decide +kernel
theorem dX11_best_25 : decode cX11_best 25 = .ok (.istore_n 3, 1) := by decide +kernel
theorem dX11_best_26 : decode cX11_best 26 = .ok (.iload_n 2, 1) := by decide +kernel
theorem dX11_best_27 : decode cX11_best 27 = .ok (.ifCond .ne 12, 3) := by decide +kernel
theorem dX11_best_30 : decode cX11_best 30 = .ok (.aload_n 0, 1) := by decide +kernel
theorem dX11_best_31 : decode cX11_best 31 = .ok (.iload_n 1, 1) := by decide +kernel
theorem dX11_best_32 : decode cX11_best 32 = .ok (.iload_n 3, 1) := by decide +kernel
theorem dX11_best_33 : decode cX11_best 33 = .ok (.invokevirtual 258, 3) := by decide +kernel
theorem dX11_best_36 : decode cX11_best 36 = .ok (.goto 4, 3) := by decide +kernel
theorem dX11_best_39 : decode cX11_best 39 = .ok (.iload_n 3, 1) := by decide +kernel
theorem dX11_best_40 : decode cX11_best 40 = .ok (.ireturn, 1) := by decide +kernel
theorem dX11_rather_0 : decode cX11_rather 0 = .ok (.aload_n 0, 1) := by decide +kernel
theorem dX11_rather_1 : decode cX11_rather 1 = .ok (.invokevirtual 193, 3) := by decide +kernel
theorem dX11_rather_4 : decode cX11_rather 4 = .ok (.ifCond .eq 6, 3) := by decide +kernel
theorem dX11_rather_7 : decode cX11_rather 7 = .ok (.ldc 169, 2) := by decide +kernel
theorem dX11_rather_9 : decode cX11_rather 9 = .ok (.ireturn, 1) := by decide +kernel
theorem dX11_rather_10 : decode cX11_rather 10 = .ok (.iconst 0, 1) := by decide +kernel
theorem dX11_rather_11 : decode cX11_rather 11 = .ok (.istore_n 1, 1) := by decide +kernel
theorem dX11_rather_12 : decode cX11_rather 12 = .ok (.iconst 0, 1) := by decide +kernel
theorem dX11_rather_13 : decode cX11_rather 13 = .ok (.istore_n 2, 1) := by decide +kernel
theorem dX11_rather_14 : decode cX11_rather 14 = .ok (.iload_n 2, 1) := by decide +kernel
theorem dX11_rather_15 : decode cX11_rather 15 = .ok (.aload_n 0, 1) := by decide +kernel
theorem dX11_rather_16 : decode cX11_rather 16 = .ok (.getfield 88, 3) := by decide +kernel
theorem dX11_rather_19 : decode cX11_rather 19 = .ok (.getfield 166, 3) := by decide +kernel
theorem dX11_rather_22 : decode cX11_rather 22 = .ok (.if_icmp .ge 33, 3) := by decide +kernel
theorem dX11_rather_25 : decode cX11_rather 25 = .ok (.aload_n 0, 1) := by decide +kernel
theorem dX11_rather_26 : decode cX11_rather 26 = .ok (.iload_n 2, 1) := by decide +kernel
theorem dX11_rather_27 : decode cX11_rather 27 = .ok (.aload_n 0, 1) := by decide +kernel
theorem dX11_rather_28 : decode cX11_rather 28 = .ok (.iload_n 2, 1) := by decide +kernel
theorem dX11_rather_29 : decode cX11_rather 29 = .ok (.invokevirtual 255, 3) := by decide +kernel
theorem dX11_rather_32 : decode cX11_rather 32 = .ok (.invokevirtual 258, 3) := by decide +kernel
theorem dX11_rather_35 : decode cX11_rather 35 = .ok (.aload_n 0, 1) := by decide +kernel
theorem dX11_rather_36 : decode cX11_rather 36 = .ok (.iload_n 2, 1) := by decide +kernel
theorem dX11_rather_37 : decode cX11_rather 37 = .ok (.invokevirtual 261, 3) := by decide +kernel
theorem dX11_rather_40 : decode cX11_rather 40 = .ok (.if_icmp .le 9, 3) := by decide +kernel
theorem dX11_rather_43 : decode cX11_rather 43 = .ok (.iload_n 1, 1) := by decide +kernel
theorem dX11_rather_44 : decode cX11_rather 44 = .ok (.iconst 1, 1) := by decide +kernel
theorem dX11_rather_45 : decode cX11_rather 45 = .ok (.iload_n 2, 1) := by decide +kernel
theorem dX11_rather_46 : decode cX11_rather 46 = .ok (.ishl, 1) := by decide +kernel
theorem dX11_rather_47 : decode cX11_rather 47 = .ok (.ior, 1) := by decide +kernel
theorem dX11_rather_48 : decode cX11_rather 48 = .ok (.istore_n 1, 1) := by decide +kernel
theorem dX11_rather_49 : decode cX11_rather 49 = .ok (.iinc 2 1, 3) := by decide +kernel
theorem dX11_rather_52 : decode cX11_rather 52 = .ok (.goto (-38), 3) := by decide +kernel
theorem dX11_rather_55 : decode cX11_rather 55 = .ok (.iload_n 1, 1) := by decide +kernel
theorem dX11_rather_56 : decode cX11_rather 56 = .ok (.ireturn, 1) := by decide +kernel
theorem dX11_trueRule_0 : decode cX11_trueRule 0 = .ok (.aload_n 0, 1) := by decide +kernel
theorem dX11_trueRule_1 : decode cX11_trueRule 1 = .ok (.invokevirtual 193, 3) := by decide +kernel
theorem dX11_trueRule_4 : decode cX11_trueRule 4 = .ok (.ifCond .eq 6, 3) := by decide +kernel
theorem dX11_trueRule_7 : decode cX11_trueRule 7 = .ok (.ldc 169, 2) := by decide +kernel
theorem dX11_trueRule_9 : decode cX11_trueRule 9 = .ok (.ireturn, 1) := by decide +kernel
theorem dX11_trueRule_10 : decode cX11_trueRule 10 = .ok (.aload_n 0, 1) := by decide +kernel
theorem dX11_trueRule_11 : decode cX11_trueRule 11 = .ok (.invokevirtual 264, 3) := by decide +kernel
theorem dX11_trueRule_14 : decode cX11_trueRule 14 = .ok (.istore_n 1, 1) := by decide +kernel
theorem dX11_trueRule_15 : decode cX11_trueRule 15 = .ok (.iconst 0, 1) := by decide +kernel
theorem dX11_trueRule_16 : decode cX11_trueRule 16 = .ok (.istore_n 2, 1) := by decide +kernel
theorem dX11_trueRule_17 : decode cX11_trueRule 17 = .ok (.iload_n 2, 1) := by decide +kernel
theorem dX11_trueRule_18 : decode cX11_trueRule 18 = .ok (.iconst 4, 1) := by decide +kernel
theorem dX11_trueRule_19 : decode cX11_trueRule 19 = .ok (.if_icmp .ge 20, 3) := by decide +kernel
theorem dX11_trueRule_22 : decode cX11_trueRule 22 = .ok (.aload_n 0, 1) := by decide +kernel
theorem dX11_trueRule_23 : decode cX11_trueRule 23 = .ok (.iload_n 1, 1) := by decide +kernel
theorem dX11_trueRule_24 : decode cX11_trueRule 24 = .ok (.iload_n 2, 1) := by decide +kernel
theorem dX11_trueRule_25 : decode cX11_trueRule 25 = .ok (.invokevirtual 268, 3) := by decide +kernel
theorem dX11_trueRule_28 : decode cX11_trueRule 28 = .ok (.ifCond .eq 5, 3) := by decide +kernel
theorem dX11_trueRule_31 : decode cX11_trueRule 31 = .ok (.iload_n 2, 1) := by decide +kernel
theorem dX11_trueRule_32 : decode cX11_trueRule 32 = .ok (.ireturn, 1) := by decide +kernel
theorem dX11_trueRule_33 : decode cX11_trueRule 33 = .ok (.iinc 2 1, 3) := by decide +kernel
theorem dX11_trueRule_36 : decode cX11_trueRule 36 = .ok (.goto (-19), 3) := by decide +kernel
theorem dX11_trueRule_39 : decode cX11_trueRule 39 = .ok (.ldc_w 271, 3) := by decide +kernel
theorem dX11_trueRule_42 : decode cX11_trueRule 42 = .ok (.ireturn, 1) := by decide +kernel
theorem dX11_order_0 : decode cX11_order 0 = .ok (.aload_n 0, 1) := by decide +kernel
theorem dX11_order_1 : decode cX11_order 1 = .ok (.invokevirtual 193, 3) := by decide +kernel
theorem dX11_order_4 : decode cX11_order 4 = .ok (.ifCond .eq 6, 3) := by decide +kernel
theorem dX11_order_7 : decode cX11_order 7 = .ok (.ldc 169, 2) := by decide +kernel
theorem dX11_order_9 : decode cX11_order 9 = .ok (.ireturn, 1) := by decide +kernel
theorem dX11_order_10 : decode cX11_order 10 = .ok (.iload_n 1, 1) := by decide +kernel
theorem dX11_order_11 : decode cX11_order 11 = .ok (.iconst 1, 1) := by decide +kernel
theorem dX11_order_12 : decode cX11_order 12 = .ok (.bipush 24, 2) := by decide +kernel
theorem dX11_order_14 : decode cX11_order 14 = .ok (.invokestatic 96, 3) := by decide +kernel
theorem dX11_order_17 : decode cX11_order 17 = .ok (.ifCond .eq 12, 3) := by decide +kernel
theorem dX11_order_20 : decode cX11_order 20 = .ok (.iload_n 2, 1) := by decide +kernel
theorem dX11_order_21 : decode cX11_order 21 = .ok (.iconst (-1), 1) := by decide +kernel
theorem dX11_order_22 : decode cX11_order 22 = .ok (.iconst 3, 1) := by decide +kernel
theorem dX11_order_23 : decode cX11_order 23 = .ok (.invokestatic 96, 3) := by decide +kernel
theorem dX11_order_26 : decode cX11_order 26 = .ok (.ifCond .ne 6, 3) := by decide +kernel
theorem dX11_order_29 : decode cX11_order 29 = .ok (.ldc 100, 2) := by decide +kernel
theorem dX11_order_31 : decode cX11_order 31 = .ok (.ireturn, 1) := by decide +kernel
theorem dX11_order_32 : decode cX11_order 32 = .ok (.aload_n 0, 1) := by decide +kernel
theorem dX11_order_33 : decode cX11_order 33 = .ok (.iload_n 1, 1) := by decide +kernel
theorem dX11_order_34 : decode cX11_order 34 = .ok (.invokevirtual 272, 3) := by decide +kernel
theorem dX11_order_37 : decode cX11_order 37 = .ok (.istore_n 3, 1) := by decide +kernel
theorem dX11_order_38 : decode cX11_order 38 = .ok (.iload_n 2, 1) := by decide +kernel
theorem dX11_order_39 : decode cX11_order 39 = .ok (.ifCond .ge 5, 3) := by decide +kernel
theorem dX11_order_42 : decode cX11_order 42 = .ok (.iload_n 3, 1) := by decide +kernel
theorem dX11_order_43 : decode cX11_order 43 = .ok (.ireturn, 1) := by decide +kernel
theorem dX11_order_44 : decode cX11_order 44 = .ok (.iload_n 2, 1) := by decide +kernel
theorem dX11_order_45 : decode cX11_order 45 = .ok (.aload_n 0, 1) := by decide +kernel
theorem dX11_order_46 : decode cX11_order 46 = .ok (.getfield 88, 3) := by decide +kernel
theorem dX11_order_49 : decode cX11_order 49 = .ok (.getfield 166, 3) := by decide +kernel
theorem dX11_order_52 : decode cX11_order 52 = .ok (.if_icmp .ge 12, 3) := by decide +kernel
theorem dX11_order_55 : decode cX11_order 55 = .ok (.aload_n 0, 1) := by decide +kernel
theorem dX11_order_56 : decode cX11_order 56 = .ok (.getfield 61, 3) := by decide +kernel
theorem dX11_order_59 : decode cX11_order 59 = .ok (.iload_n 2, 1) := by decide +kernel
theorem dX11_order_60 : decode cX11_order 60 = .ok (.iaload, 1) := by decide +kernel
theorem dX11_order_61 : decode cX11_order 61 = .ok (.goto 6, 3) := by decide +kernel
theorem dX11_order_64 : decode cX11_order 64 = .ok (.ldc_w 271, 3) := by decide +kernel
theorem dX11_order_67 : decode cX11_order 67 = .ok (.ireturn, 1) := by decide +kernel
theorem dX11_ahead_0 : decode cX11_ahead 0 = .ok (.aload_n 0, 1) := by decide +kernel
theorem dX11_ahead_1 : decode cX11_ahead 1 = .ok (.invokevirtual 193, 3) := by decide +kernel
theorem dX11_ahead_4 : decode cX11_ahead 4 = .ok (.ifCond .eq 6, 3) := by decide +kernel
theorem dX11_ahead_7 : decode cX11_ahead 7 = .ok (.ldc 169, 2) := by decide +kernel
theorem dX11_ahead_9 : decode cX11_ahead 9 = .ok (.ireturn, 1) := by decide +kernel
theorem dX11_ahead_10 : decode cX11_ahead 10 = .ok (.iload_n 1, 1) := by decide +kernel
theorem dX11_ahead_11 : decode cX11_ahead 11 = .ok (.iconst 0, 1) := by decide +kernel
theorem dX11_ahead_12 : decode cX11_ahead 12 = .ok (.bipush 60, 2) := by decide +kernel
theorem dX11_ahead_14 : decode cX11_ahead 14 = .ok (.invokestatic 96, 3) := by decide +kernel
theorem dX11_ahead_17 : decode cX11_ahead 17 = .ok (.ifCond .eq 12, 3) := by decide +kernel
theorem dX11_ahead_20 : decode cX11_ahead 20 = .ok (.iload_n 2, 1) := by decide +kernel
theorem dX11_ahead_21 : decode cX11_ahead 21 = .ok (.iconst 0, 1) := by decide +kernel
theorem dX11_ahead_22 : decode cX11_ahead 22 = .ok (.iconst 1, 1) := by decide +kernel
theorem dX11_ahead_23 : decode cX11_ahead 23 = .ok (.invokestatic 96, 3) := by decide +kernel
theorem dX11_ahead_26 : decode cX11_ahead 26 = .ok (.ifCond .ne 6, 3) := by decide +kernel
theorem dX11_ahead_29 : decode cX11_ahead 29 = .ok (.ldc 100, 2) := by decide +kernel
theorem dX11_ahead_31 : decode cX11_ahead 31 = .ok (.ireturn, 1) := by decide +kernel
theorem dX11_ahead_32 : decode cX11_ahead 32 = .ok (.aload_n 0, 1) := by decide +kernel
theorem dX11_ahead_33 : decode cX11_ahead 33 = .ok (.getfield 92, 3) := by decide +kernel
theorem dX11_ahead_36 : decode cX11_ahead 36 = .ok (.aload_n 0, 1) := by decide +kernel
theorem dX11_ahead_37 : decode cX11_ahead 37 = .ok (.getfield 88, 3) := by decide +kernel
theorem dX11_ahead_40 : decode cX11_ahead 40 = .ok (.invokevirtual 159, 3) := by decide +kernel
theorem dX11_ahead_43 : decode cX11_ahead 43 = .ok (.iconst 0, 1) := by decide +kernel
theorem dX11_ahead_44 : decode cX11_ahead 44 = .ok (.istore_n 3, 1) := by decide +kernel
theorem dX11_ahead_45 : decode cX11_ahead 45 = .ok (.iload_n 3, 1) := by decide +kernel
theorem dX11_ahead_46 : decode cX11_ahead 46 = .ok (.iload_n 1, 1) := by decide +kernel
theorem dX11_ahead_47 : decode cX11_ahead 47 = .ok (.if_icmp .ge 16, 3) := by decide +kernel
theorem dX11_ahead_50 : decode cX11_ahead 50 = .ok (.aload_n 0, 1) := by decide +kernel
theorem dX11_ahead_51 : decode cX11_ahead 51 = .ok (.getfield 92, 3) := by decide +kernel
theorem dX11_ahead_54 : decode cX11_ahead 54 = .ok (.invokevirtual 213, 3) := by decide +kernel
theorem dX11_ahead_57 : decode cX11_ahead 57 = .ok (.iinc 3 1, 3) := by decide +kernel
theorem dX11_ahead_60 : decode cX11_ahead 60 = .ok (.goto (-15), 3) := by decide +kernel
theorem dX11_ahead_63 : decode cX11_ahead 63 = .ok (.iload_n 2, 1) := by decide +kernel
theorem dX11_ahead_64 : decode cX11_ahead 64 = .ok (.ifCond .ne 13, 3) := by decide +kernel
theorem dX11_ahead_67 : decode cX11_ahead 67 = .ok (.aload_n 0, 1) := by decide +kernel
theorem dX11_ahead_68 : decode cX11_ahead 68 = .ok (.getfield 92, 3) := by decide +kernel
theorem dX11_ahead_71 : decode cX11_ahead 71 = .ok (.getfield 216, 3) := by decide +kernel
theorem dX11_ahead_74 : decode cX11_ahead 74 = .ok (.goto 10, 3) := by decide +kernel
theorem dX11_ahead_77 : decode cX11_ahead 77 = .ok (.aload_n 0, 1) := by decide +kernel
theorem dX11_ahead_78 : decode cX11_ahead 78 = .ok (.getfield 92, 3) := by decide +kernel
theorem dX11_ahead_81 : decode cX11_ahead 81 = .ok (.invokevirtual 275, 3) := by decide +kernel
theorem dX11_ahead_84 : decode cX11_ahead 84 = .ok (.ireturn, 1) := by decide +kernel
theorem dX11_down_0 : decode cX11_down 0 = .ok (.aload_n 0, 1) := by decide +kernel
theorem dX11_down_1 : decode cX11_down 1 = .ok (.invokevirtual 193, 3) := by decide +kernel
theorem dX11_down_4 : decode cX11_down 4 = .ok (.ifCond .eq 6, 3) := by decide +kernel
theorem dX11_down_7 : decode cX11_down 7 = .ok (.ldc 169, 2) := by decide +kernel
theorem dX11_down_9 : decode cX11_down 9 = .ok (.ireturn, 1) := by decide +kernel
theorem dX11_down_10 : decode cX11_down 10 = .ok (.iload_n 1, 1) := by decide +kernel
theorem dX11_down_11 : decode cX11_down 11 = .ok (.iconst 1, 1) := by decide +kernel
theorem dX11_down_12 : decode cX11_down 12 = .ok (.bipush 99, 2) := by decide +kernel
theorem dX11_down_14 : decode cX11_down 14 = .ok (.invokestatic 96, 3) := by decide +kernel
theorem dX11_down_17 : decode cX11_down 17 = .ok (.ifCond .ne 6, 3) := by decide +kernel
theorem dX11_down_20 : decode cX11_down 20 = .ok (.ldc 100, 2) := by decide +kernel
theorem dX11_down_22 : decode cX11_down 22 = .ok (.ireturn, 1) := by decide +kernel
theorem dX11_down_23 : decode cX11_down 23 = .ok (.aload_n 0, 1) := by decide +kernel
theorem dX11_down_24 : decode cX11_down 24 = .ok (.getfield 92, 3) := by decide +kernel
theorem dX11_down_27 : decode cX11_down 27 = .ok (.aload_n 0, 1) := by decide +kernel
theorem dX11_down_28 : decode cX11_down 28 = .ok (.getfield 88, 3) := by decide +kernel
theorem dX11_down_31 : decode cX11_down 31 = .ok (.invokevirtual 159, 3) := by decide +kernel
theorem dX11_down_34 : decode cX11_down 34 = .ok (.iconst 0, 1) := by decide +kernel
theorem dX11_down_35 : decode cX11_down 35 = .ok (.istore_n 2, 1) := by decide +kernel
theorem dX11_down_36 : decode cX11_down 36 = .ok (.iload_n 2, 1) := by decide +kernel
theorem dX11_down_37 : decode cX11_down 37 = .ok (.bipush 60, 2) := by decide +kernel
theorem dX11_down_39 : decode cX11_down 39 = .ok (.if_icmp .gt 29, 3) := by decide +kernel
theorem dX11_down_42 : decode cX11_down 42 = .ok (.aload_n 0, 1) := by decide +kernel
theorem dX11_down_43 : decode cX11_down 43 = .ok (.getfield 92, 3) := by decide +kernel
theorem dX11_down_46 : decode cX11_down 46 = .ok (.getfield 216, 3) := by decide +kernel
theorem dX11_down_49 : decode cX11_down 49 = .ok (.iload_n 1, 1) := by decide +kernel
theorem dX11_down_50 : decode cX11_down 50 = .ok (.if_icmp .ge 5, 3) := by decide +kernel
theorem dX11_down_53 : decode cX11_down 53 = .ok (.iload_n 2, 1) := by decide +kernel
theorem dX11_down_54 : decode cX11_down 54 = .ok (.ireturn, 1) := by decide +kernel
theorem dX11_down_55 : decode cX11_down 55 = .ok (.aload_n 0, 1) := by decide +kernel
theorem dX11_down_56 : decode cX11_down 56 = .ok (.getfield 92, 3) := by decide +kernel
theorem dX11_down_59 : decode cX11_down 59 = .ok (.invokevirtual 213, 3) := by decide +kernel
theorem dX11_down_62 : decode cX11_down 62 = .ok (.iinc 2 1, 3) := by decide +kernel
theorem dX11_down_65 : decode cX11_down 65 = .ok (.goto (-29), 3) := by decide +kernel
theorem dX11_down_68 : decode cX11_down 68 = .ok (.ldc_w 271, 3) := by decide +kernel
theorem dX11_down_71 : decode cX11_down 71 = .ok (.ireturn, 1) := by decide +kernel
theorem dX11_loves_0 : decode cX11_loves 0 = .ok (.aload_n 0, 1) := by decide +kernel
theorem dX11_loves_1 : decode cX11_loves 1 = .ok (.iload_n 1, 1) := by decide +kernel
theorem dX11_loves_2 : decode cX11_loves 2 = .ok (.invokevirtual 170, 3) := by decide +kernel
theorem dX11_loves_5 : decode cX11_loves 5 = .ok (.ifCond .eq 34, 3) := by decide +kernel
theorem dX11_loves_8 : decode cX11_loves 8 = .ok (.iload_n 2, 1) := by decide +kernel
theorem dX11_loves_9 : decode cX11_loves 9 = .ok (.iconst 0, 1) := by decide +kernel
theorem dX11_loves_10 : decode cX11_loves 10 = .ok (.bipush 7, 2) := by decide +kernel
theorem dX11_loves_12 : decode cX11_loves 12 = .ok (.invokestatic 96, 3) := by decide +kernel
theorem dX11_loves_15 : decode cX11_loves 15 = .ok (.ifCond .eq 24, 3) := by decide +kernel
theorem dX11_loves_18 : decode cX11_loves 18 = .ok (.iload 4, 2) := by decide +kernel
theorem dX11_loves_20 : decode cX11_loves 20 = .ok (.iconst 1, 1) := by decide +kernel
theorem dX11_loves_21 : decode cX11_loves 21 = .ok (.bipush 12, 2) := by decide +kernel
theorem dX11_loves_23 : decode cX11_loves 23 = .ok (.invokestatic 96, 3) := by decide +kernel
theorem dX11_loves_26 : decode cX11_loves 26 = .ok (.ifCond .eq 13, 3) := by decide +kernel
theorem dX11_loves_29 : decode cX11_loves 29 = .ok (.iload 5, 2) := by decide +kernel
theorem dX11_loves_31 : decode cX11_loves 31 = .ok (.iconst 0, 1) := by decide +kernel
theorem dX11_loves_32 : decode cX11_loves 32 = .ok (.iconst 1, 1) := by decide +kernel
theorem dX11_loves_33 : decode cX11_loves 33 = .ok (.invokestatic 96, 3) := by decide +kernel
theorem dX11_loves_36 : decode cX11_loves 36 = .ok (.ifCond .ne 6, 3) := by decide +kernel
theorem dX11_loves_39 : decode cX11_loves 39 = .ok (.ldc 100, 2) := by decide +kernel
theorem dX11_loves_41 : decode cX11_loves 41 = .ok (.ireturn, 1) := by decide +kernel
theorem dX11_loves_42 : decode cX11_loves 42 = .ok (.aload_n 0, 1) := by decide +kernel
theorem dX11_loves_43 : decode cX11_loves 43 = .ok (.getfield 11, 3) := by decide +kernel
theorem dX11_loves_46 : decode cX11_loves 46 = .ok (.iload_n 2, 1) := by decide +kernel
theorem dX11_loves_47 : decode cX11_loves 47 = .ok (.aaload, 1) := by decide +kernel
theorem dX11_loves_48 : decode cX11_loves 48 = .ok (.astore 6, 2) := by decide +kernel
theorem dX11_loves_50 : decode cX11_loves 50 = .ok (.aload 6, 2) := by decide +kernel
theorem dX11_loves_52 : decode cX11_loves 52 = .ok (.invokevirtual 112, 3) := by decide +kernel
theorem dX11_loves_55 : decode cX11_loves 55 = .ok (.ifCond .eq 9, 3) := by decide +kernel
theorem dX11_loves_58 : decode cX11_loves 58 = .ok (.aload_n 0, 1) := by decide +kernel
theorem dX11_loves_59 : decode cX11_loves 59 = .ok (.iconst 1, 1) := by decide +kernel
theorem dX11_loves_60 : decode cX11_loves 60 = .ok (.invokevirtual 101, 3) := by decide +kernel
theorem dX11_loves_63 : decode cX11_loves 63 = .ok (.ireturn, 1) := by decide +kernel
theorem dX11_loves_64 : decode cX11_loves 64 = .ok (.aload 6, 2) := by decide +kernel
theorem dX11_loves_66 : decode cX11_loves 66 = .ok (.iload_n 3, 1) := by decide +kernel
theorem dX11_loves_67 : decode cX11_loves 67 = .ok (.iload 4, 2) := by decide +kernel
theorem dX11_loves_69 : decode cX11_loves 69 = .ok (.invokevirtual 116, 3) := by decide +kernel
theorem dX11_loves_72 : decode cX11_loves 72 = .ok (.ifCond .ne 9, 3) := by decide +kernel
theorem dX11_loves_75 : decode cX11_loves 75 = .ok (.aload_n 0, 1) := by decide +kernel
theorem dX11_loves_76 : decode cX11_loves 76 = .ok (.iconst 2, 1) := by decide +kernel
theorem dX11_loves_77 : decode cX11_loves 77 = .ok (.invokevirtual 101, 3) := by decide +kernel
theorem dX11_loves_80 : decode cX11_loves 80 = .ok (.ireturn, 1) := by decide +kernel
theorem dX11_loves_81 : decode cX11_loves 81 = .ok (.iconst 0, 1) := by decide +kernel
theorem dX11_loves_82 : decode cX11_loves 82 = .ok (.istore 7, 2) := by decide +kernel
theorem dX11_loves_84 : decode cX11_loves 84 = .ok (.ldc_w 271, 3) := by decide +kernel
theorem dX11_loves_87 : decode cX11_loves 87 = .ok (.istore 8, 2) := by decide +kernel
theorem dX11_loves_89 : decode cX11_loves 89 = .ok (.bipush 9, 2) := by decide +kernel
theorem dX11_loves_91 : decode cX11_loves 91 = .ok (.istore 9, 2) := by decide +kernel
theorem dX11_loves_93 : decode cX11_loves 93 = .ok (.iload 9, 2) := by decide +kernel
theorem dX11_loves_95 : decode cX11_loves 95 = .ok (.ifCond .lt 53, 3) := by decide +kernel
theorem dX11_loves_98 : decode cX11_loves 98 = .ok (.aload_n 0, 1) := by decide +kernel
theorem dX11_loves_99 : decode cX11_loves 99 = .ok (.getfield 92, 3) := by decide +kernel
theorem dX11_loves_102 : decode cX11_loves 102 = .ok (.aload_n 0, 1) := by decide +kernel
theorem dX11_loves_103 : decode cX11_loves 103 = .ok (.getfield 88, 3) := by decide +kernel
theorem dX11_loves_106 : decode cX11_loves 106 = .ok (.invokevirtual 159, 3) := by decide +kernel
theorem dX11_loves_109 : decode cX11_loves 109 = .ok (.aload_n 0, 1) := by decide +kernel
theorem dX11_loves_110 : decode cX11_loves 110 = .ok (.getfield 92, 3) := by decide +kernel
theorem dX11_loves_113 : decode cX11_loves 113 = .ok (.getfield 184, 3) := by decide +kernel
theorem dX11_loves_116 : decode cX11_loves 116 = .ok (.iload_n 1, 1) := by decide +kernel
theorem dX11_loves_117 : decode cX11_loves 117 = .ok (.aaload, 1) := by decide +kernel
theorem dX11_loves_118 : decode cX11_loves 118 = .ok (.iload 9, 2) := by decide +kernel
theorem dX11_loves_120 : decode cX11_loves 120 = .ok (.putfield 231, 3) := by decide +kernel
theorem dX11_loves_123 : decode cX11_loves 123 = .ok (.aload_n 0, 1) := by decide +kernel
theorem dX11_loves_124 : decode cX11_loves 124 = .ok (.aload 6, 2) := by decide +kernel
theorem dX11_loves_126 : decode cX11_loves 126 = .ok (.iload_n 3, 1) := by decide +kernel
theorem dX11_loves_127 : decode cX11_loves 127 = .ok (.iload 4, 2) := by decide +kernel
theorem dX11_loves_129 : decode cX11_loves 129 = .ok (.invokevirtual 278, 3) := by decide +kernel
theorem dX11_loves_132 : decode cX11_loves 132 = .ok (.ifCond .eq 10, 3) := by decide +kernel
theorem dX11_loves_135 : decode cX11_loves 135 = .ok (.iinc 7 1, 3) := by decide +kernel
theorem dX11_loves_138 : decode cX11_loves 138 = .ok (.iload 9, 2) := by decide +kernel
theorem dX11_loves_140 : decode cX11_loves 140 = .ok (.istore 8, 2) := by decide +kernel
theorem dX11_loves_142 : decode cX11_loves 142 = .ok (.iinc 9 (-1), 3) := by decide +kernel
theorem dX11_loves_145 : decode cX11_loves 145 = .ok (.goto (-52), 3) := by decide +kernel
theorem dX11_loves_148 : decode cX11_loves 148 = .ok (.aload_n 0, 1) := by decide +kernel
theorem dX11_loves_149 : decode cX11_loves 149 = .ok (.iload 5, 2) := by decide +kernel
theorem dX11_loves_151 : decode cX11_loves 151 = .ok (.ifCond .ne 8, 3) := by decide +kernel
theorem dX11_loves_154 : decode cX11_loves 154 = .ok (.iload 7, 2) := by decide +kernel
theorem dX11_loves_156 : decode cX11_loves 156 = .ok (.goto 5, 3) := by decide +kernel
theorem dX11_loves_159 : decode cX11_loves 159 = .ok (.iload 8, 2) := by decide +kernel
theorem dX11_loves_161 : decode cX11_loves 161 = .ok (.invokevirtual 109, 3) := by decide +kernel
theorem dX11_loves_164 : decode cX11_loves 164 = .ok (.ireturn, 1) := by decide +kernel
theorem dX11_map_0 : decode cX11_map 0 = .ok (.aload_n 0, 1) := by decide +kernel
theorem dX11_map_1 : decode cX11_map 1 = .ok (.invokevirtual 193, 3) := by decide +kernel
theorem dX11_map_4 : decode cX11_map 4 = .ok (.ifCond .eq 6, 3) := by decide +kernel
theorem dX11_map_7 : decode cX11_map 7 = .ok (.ldc 169, 2) := by decide +kernel
theorem dX11_map_9 : decode cX11_map 9 = .ok (.ireturn, 1) := by decide +kernel
theorem dX11_map_10 : decode cX11_map 10 = .ok (.iload_n 1, 1) := by decide +kernel
theorem dX11_map_11 : decode cX11_map 11 = .ok (.iconst 0, 1) := by decide +kernel
theorem dX11_map_12 : decode cX11_map 12 = .ok (.bipush 7, 2) := by decide +kernel
theorem dX11_map_14 : decode cX11_map 14 = .ok (.invokestatic 96, 3) := by decide +kernel
theorem dX11_map_17 : decode cX11_map 17 = .ok (.ifCond .ne 6, 3) := by decide +kernel
theorem dX11_map_20 : decode cX11_map 20 = .ok (.ldc 100, 2) := by decide +kernel
theorem dX11_map_22 : decode cX11_map 22 = .ok (.ireturn, 1) := by decide +kernel
theorem dX11_map_23 : decode cX11_map 23 = .ok (.aload_n 0, 1) := by decide +kernel
theorem dX11_map_24 : decode cX11_map 24 = .ok (.getfield 11, 3) := by decide +kernel
theorem dX11_map_27 : decode cX11_map 27 = .ok (.iload_n 1, 1) := by decide +kernel
theorem dX11_map_28 : decode cX11_map 28 = .ok (.aaload, 1) := by decide +kernel
theorem dX11_map_29 : decode cX11_map 29 = .ok (.astore_n 3, 1) := by decide +kernel
theorem dX11_map_30 : decode cX11_map 30 = .ok (.aload_n 3, 1) := by decide +kernel
theorem dX11_map_31 : decode cX11_map 31 = .ok (.invokevirtual 112, 3) := by decide +kernel
theorem dX11_map_34 : decode cX11_map 34 = .ok (.ifCond .eq 9, 3) := by decide +kernel
theorem dX11_map_37 : decode cX11_map 37 = .ok (.aload_n 0, 1) := by decide +kernel
theorem dX11_map_38 : decode cX11_map 38 = .ok (.iconst 1, 1) := by decide +kernel
theorem dX11_map_39 : decode cX11_map 39 = .ok (.invokevirtual 101, 3) := by decide +kernel
theorem dX11_map_42 : decode cX11_map 42 = .ok (.ireturn, 1) := by decide +kernel
theorem dX11_map_43 : decode cX11_map 43 = .ok (.aload_n 3, 1) := by decide +kernel
theorem dX11_map_44 : decode cX11_map 44 = .ok (.iload_n 2, 1) := by decide +kernel
theorem dX11_map_45 : decode cX11_map 45 = .ok (.aload_n 0, 1) := by decide +kernel
theorem dX11_map_46 : decode cX11_map 46 = .ok (.getfield 88, 3) := by decide +kernel
theorem dX11_map_49 : decode cX11_map 49 = .ok (.getfield 166, 3) := by decide +kernel
theorem dX11_map_52 : decode cX11_map 52 = .ok (.invokevirtual 116, 3) := by decide +kernel
theorem dX11_map_55 : decode cX11_map 55 = .ok (.ifCond .ne 9, 3) := by decide +kernel
theorem dX11_map_58 : decode cX11_map 58 = .ok (.aload_n 0, 1) := by decide +kernel
theorem dX11_map_59 : decode cX11_map 59 = .ok (.iconst 2, 1) := by decide +kernel
theorem dX11_map_60 : decode cX11_map 60 = .ok (.invokevirtual 101, 3) := by decide +kernel
theorem dX11_map_63 : decode cX11_map 63 = .ok (.ireturn, 1) := by decide +kernel
theorem dX11_map_64 : decode cX11_map 64 = .ok (.iconst 0, 1) := by decide +kernel
theorem dX11_map_65 : decode cX11_map 65 = .ok (.istore 4, 2) := by decide +kernel
theorem dX11_map_67 : decode cX11_map 67 = .ok (.iconst 0, 1) := by decide +kernel
theorem dX11_map_68 : decode cX11_map 68 = .ok (.istore 5, 2) := by decide +kernel
theorem dX11_map_70 : decode cX11_map 70 = .ok (.iload 5, 2) := by decide +kernel
theorem dX11_map_72 : decode cX11_map 72 = .ok (.iconst 4, 1) := by decide +kernel
theorem dX11_map_73 : decode cX11_map 73 = .ok (.if_icmp .ge 50, 3) := by decide +kernel
theorem dX11_map_76 : decode cX11_map 76 = .ok (.aload_n 0, 1) := by decide +kernel
theorem dX11_map_77 : decode cX11_map 77 = .ok (.getfield 88, 3) := by decide +kernel
theorem dX11_map_80 : decode cX11_map 80 = .ok (.iload 5, 2) := by decide +kernel
theorem dX11_map_82 : decode cX11_map 82 = .ok (.aload_n 0, 1) := by decide +kernel
theorem dX11_map_83 : decode cX11_map 83 = .ok (.getfield 55, 3) := by decide +kernel
theorem dX11_map_86 : decode cX11_map 86 = .ok (.invokevirtual 199, 3) := by decide +kernel
theorem dX11_map_89 : decode cX11_map 89 = .ok (.aload_n 3, 1) := by decide +kernel
theorem dX11_map_90 : decode cX11_map 90 = .ok (.iload_n 2, 1) := by decide +kernel
theorem dX11_map_91 : decode cX11_map 91 = .ok (.aload_n 0, 1) := by decide +kernel
theorem dX11_map_92 : decode cX11_map 92 = .ok (.getfield 55, 3) := by decide +kernel
theorem dX11_map_95 : decode cX11_map 95 = .ok (.aload_n 0, 1) := by decide +kernel
theorem dX11_map_96 : decode cX11_map 96 = .ok (.getfield 88, 3) := by decide +kernel
theorem dX11_map_99 : decode cX11_map 99 = .ok (.getfield 166, 3) := by decide +kernel
theorem dX11_map_102 : decode cX11_map 102 = .ok (.invokevirtual 282, 3) := by decide +kernel
theorem dX11_map_105 : decode cX11_map 105 = .ok (.ifCond .eq 12, 3) := by decide +kernel
theorem dX11_map_108 : decode cX11_map 108 = .ok (.iload 4, 2) := by decide +kernel
theorem dX11_map_110 : decode cX11_map 110 = .ok (.iconst 1, 1) := by decide +kernel
theorem dX11_map_111 : decode cX11_map 111 = .ok (.iload 5, 2) := by decide +kernel
theorem dX11_map_113 : decode cX11_map 113 = .ok (.ishl, 1) := by decide +kernel
theorem dX11_map_114 : decode cX11_map 114 = .ok (.ior, 1) := by decide +kernel
theorem dX11_map_115 : decode cX11_map 115 = .ok (.istore 4, 2) := by decide +kernel
theorem dX11_map_117 : decode cX11_map 117 = .ok (.iinc 5 1, 3) := by decide +kernel
theorem dX11_map_120 : decode cX11_map 120 = .ok (.goto (-50), 3) := by decide +kernel
theorem dX11_map_123 : decode cX11_map 123 = .ok (.aload_n 0, 1) := by decide +kernel
theorem dX11_map_124 : decode cX11_map 124 = .ok (.iload 4, 2) := by decide +kernel
theorem dX11_map_126 : decode cX11_map 126 = .ok (.invokevirtual 109, 3) := by decide +kernel
theorem dX11_map_129 : decode cX11_map 129 = .ok (.ireturn, 1) := by decide +kernel
theorem dX11_who_0 : decode cX11_who 0 = .ok (.aload_n 0, 1) := by decide +kernel
theorem dX11_who_1 : decode cX11_who 1 = .ok (.iload_n 1, 1) := by decide +kernel
theorem dX11_who_2 : decode cX11_who 2 = .ok (.invokevirtual 170, 3) := by decide +kernel
theorem dX11_who_5 : decode cX11_who 5 = .ok (.ifCond .eq 13, 3) := by decide +kernel
theorem dX11_who_8 : decode cX11_who 8 = .ok (.iload_n 2, 1) := by decide +kernel
theorem dX11_who_9 : decode cX11_who 9 = .ok (.iconst 0, 1) := by decide +kernel
theorem dX11_who_10 : decode cX11_who 10 = .ok (.bipush 7, 2) := by decide +kernel
theorem dX11_who_12 : decode cX11_who 12 = .ok (.invokestatic 96, 3) := by decide +kernel
theorem dX11_who_15 : decode cX11_who 15 = .ok (.ifCond .ne 6, 3) := by decide +kernel
theorem dX11_who_18 : decode cX11_who 18 = .ok (.ldc 100, 2) := by decide +kernel
theorem dX11_who_20 : decode cX11_who 20 = .ok (.ireturn, 1) := by decide +kernel
theorem dX11_who_21 : decode cX11_who 21 = .ok (.aload_n 0, 1) := by decide +kernel
theorem dX11_who_22 : decode cX11_who 22 = .ok (.getfield 11, 3) := by decide +kernel
theorem dX11_who_25 : decode cX11_who 25 = .ok (.iload_n 2, 1) := by decide +kernel
theorem dX11_who_26 : decode cX11_who 26 = .ok (.aaload, 1) := by decide +kernel
theorem dX11_who_27 : decode cX11_who 27 = .ok (.astore 4, 2) := by decide +kernel
theorem dX11_who_29 : decode cX11_who 29 = .ok (.aload 4, 2) := by decide +kernel
theorem dX11_who_31 : decode cX11_who 31 = .ok (.invokevirtual 112, 3) := by decide +kernel
theorem dX11_who_34 : decode cX11_who 34 = .ok (.ifCond .eq 9, 3) := by decide +kernel
theorem dX11_who_37 : decode cX11_who 37 = .ok (.aload_n 0, 1) := by decide +kernel
theorem dX11_who_38 : decode cX11_who 38 = .ok (.iconst 1, 1) := by decide +kernel
theorem dX11_who_39 : decode cX11_who 39 = .ok (.invokevirtual 101, 3) := by decide +kernel
theorem dX11_who_42 : decode cX11_who 42 = .ok (.ireturn, 1) := by decide +kernel
theorem dX11_who_43 : decode cX11_who 43 = .ok (.aload 4, 2) := by decide +kernel
theorem dX11_who_45 : decode cX11_who 45 = .ok (.iload_n 3, 1) := by decide +kernel
theorem dX11_who_46 : decode cX11_who 46 = .ok (.aload_n 0, 1) := by decide +kernel
theorem dX11_who_47 : decode cX11_who 47 = .ok (.getfield 88, 3) := by decide +kernel
theorem dX11_who_50 : decode cX11_who 50 = .ok (.getfield 166, 3) := by decide +kernel
theorem dX11_who_53 : decode cX11_who 53 = .ok (.invokevirtual 116, 3) := by decide +kernel
theorem dX11_who_56 : decode cX11_who 56 = .ok (.ifCond .ne 9, 3) := by decide +kernel
theorem dX11_who_59 : decode cX11_who 59 = .ok (.aload_n 0, 1) := by decide +kernel
theorem dX11_who_60 : decode cX11_who 60 = .ok (.iconst 2, 1) := by decide +kernel
theorem dX11_who_61 : decode cX11_who 61 = .ok (.invokevirtual 101, 3) := by decide +kernel
theorem dX11_who_64 : decode cX11_who 64 = .ok (.ireturn, 1) := by decide +kernel
theorem dX11_who_65 : decode cX11_who 65 = .ok (.iconst 0, 1) := by decide +kernel
theorem dX11_who_66 : decode cX11_who 66 = .ok (.istore 5, 2) := by decide +kernel
theorem dX11_who_68 : decode cX11_who 68 = .ok (.aload_n 0, 1) := by decide +kernel
theorem dX11_who_69 : decode cX11_who 69 = .ok (.getfield 92, 3) := by decide +kernel
theorem dX11_who_72 : decode cX11_who 72 = .ok (.aload_n 0, 1) := by decide +kernel
theorem dX11_who_73 : decode cX11_who 73 = .ok (.getfield 88, 3) := by decide +kernel
theorem dX11_who_76 : decode cX11_who 76 = .ok (.invokevirtual 159, 3) := by decide +kernel
theorem dX11_who_79 : decode cX11_who 79 = .ok (.iconst 1, 1) := by decide +kernel
theorem dX11_who_80 : decode cX11_who 80 = .ok (.istore 6, 2) := by decide +kernel
theorem dX11_who_82 : decode cX11_who 82 = .ok (.iload 6, 2) := by decide +kernel
theorem dX11_who_84 : decode cX11_who 84 = .ok (.iconst 5, 1) := by decide +kernel
theorem dX11_who_85 : decode cX11_who 85 = .ok (.if_icmp .gt 75, 3) := by decide +kernel
theorem dX11_who_88 : decode cX11_who 88 = .ok (.aload_n 0, 1) := by decide +kernel
theorem dX11_who_89 : decode cX11_who 89 = .ok (.getfield 92, 3) := by decide +kernel
theorem dX11_who_92 : decode cX11_who 92 = .ok (.getfield 184, 3) := by decide +kernel
theorem dX11_who_95 : decode cX11_who 95 = .ok (.iload_n 1, 1) := by decide +kernel
theorem dX11_who_96 : decode cX11_who 96 = .ok (.aaload, 1) := by decide +kernel
theorem dX11_who_97 : decode cX11_who 97 = .ok (.aload_n 0, 1) := by decide +kernel
theorem dX11_who_98 : decode cX11_who 98 = .ok (.getfield 24, 3) := by decide +kernel
theorem dX11_who_101 : decode cX11_who 101 = .ok (.iload 6, 2) := by decide +kernel
theorem dX11_who_103 : decode cX11_who 103 = .ok (.aaload, 1) := by decide +kernel
theorem dX11_who_104 : decode cX11_who 104 = .ok (.putfield 286, 3) := by decide +kernel
theorem dX11_who_107 : decode cX11_who 107 = .ok (.aload_n 0, 1) := by decide +kernel
theorem dX11_who_108 : decode cX11_who 108 = .ok (.getfield 92, 3) := by decide +kernel
theorem dX11_who_111 : decode cX11_who 111 = .ok (.aload_n 0, 1) := by decide +kernel
theorem dX11_who_112 : decode cX11_who 112 = .ok (.getfield 92, 3) := by decide +kernel
theorem dX11_who_115 : decode cX11_who 115 = .ok (.getfield 196, 3) := by decide +kernel
theorem dX11_who_118 : decode cX11_who 118 = .ok (.aload_n 0, 1) := by decide +kernel
theorem dX11_who_119 : decode cX11_who 119 = .ok (.getfield 55, 3) := by decide +kernel
theorem dX11_who_122 : decode cX11_who 122 = .ok (.invokevirtual 199, 3) := by decide +kernel
theorem dX11_who_125 : decode cX11_who 125 = .ok (.aload 4, 2) := by decide +kernel
theorem dX11_who_127 : decode cX11_who 127 = .ok (.iload_n 3, 1) := by decide +kernel
theorem dX11_who_128 : decode cX11_who 128 = .ok (.aload_n 0, 1) := by decide +kernel
theorem dX11_who_129 : decode cX11_who 129 = .ok (.getfield 55, 3) := by decide +kernel
theorem dX11_who_132 : decode cX11_who 132 = .ok (.aload_n 0, 1) := by decide +kernel
theorem dX11_who_133 : decode cX11_who 133 = .ok (.getfield 92, 3) := by decide +kernel
theorem dX11_who_136 : decode cX11_who 136 = .ok (.getfield 166, 3) := by decide +kernel
theorem dX11_who_139 : decode cX11_who 139 = .ok (.invokevirtual 282, 3) := by decide +kernel
theorem dX11_who_142 : decode cX11_who 142 = .ok (.ifCond .eq 12, 3) := by decide +kernel
theorem dX11_who_145 : decode cX11_who 145 = .ok (.iload 5, 2) := by decide +kernel
theorem dX11_who_147 : decode cX11_who 147 = .ok (.iconst 1, 1) := by decide +kernel
theorem dX11_who_148 : decode cX11_who 148 = .ok (.iload 6, 2) := by decide +kernel
theorem dX11_who_150 : decode cX11_who 150 = .ok (.ishl, 1) := by decide +kernel
theorem dX11_who_151 : decode cX11_who 151 = .ok (.ior, 1) := by decide +kernel
theorem dX11_who_152 : decode cX11_who 152 = .ok (.istore 5, 2) := by decide +kernel
theorem dX11_who_154 : decode cX11_who 154 = .ok (.iinc 6 1, 3) := by decide +kernel
theorem dX11_who_157 : decode cX11_who 157 = .ok (.goto (-75), 3) := by decide +kernel
theorem dX11_who_160 : decode cX11_who 160 = .ok (.aload_n 0, 1) := by decide +kernel
theorem dX11_who_161 : decode cX11_who 161 = .ok (.iload 5, 2) := by decide +kernel
theorem dX11_who_163 : decode cX11_who 163 = .ok (.invokevirtual 109, 3) := by decide +kernel
theorem dX11_who_166 : decode cX11_who 166 = .ok (.ireturn, 1) := by decide +kernel
theorem dX11_odds_0 : decode cX11_odds 0 = .ok (.aload_n 0, 1) := by decide +kernel
theorem dX11_odds_1 : decode cX11_odds 1 = .ok (.iload_n 1, 1) := by decide +kernel
theorem dX11_odds_2 : decode cX11_odds 2 = .ok (.invokevirtual 170, 3) := by decide +kernel
theorem dX11_odds_5 : decode cX11_odds 5 = .ok (.ifCond .eq 22, 3) := by decide +kernel
theorem dX11_odds_8 : decode cX11_odds 8 = .ok (.iload_n 2, 1) := by decide +kernel
theorem dX11_odds_9 : decode cX11_odds 9 = .ok (.iconst 0, 1) := by decide +kernel
theorem dX11_odds_10 : decode cX11_odds 10 = .ok (.bipush 10, 2) := by decide +kernel
theorem dX11_odds_12 : decode cX11_odds 12 = .ok (.invokestatic 96, 3) := by decide +kernel
theorem dX11_odds_15 : decode cX11_odds 15 = .ok (.ifCond .eq 12, 3) := by decide +kernel
theorem dX11_odds_18 : decode cX11_odds 18 = .ok (.iload_n 3, 1) := by decide +kernel
theorem dX11_odds_19 : decode cX11_odds 19 = .ok (.iconst 0, 1) := by decide +kernel
theorem dX11_odds_20 : decode cX11_odds 20 = .ok (.iconst 1, 1) := by decide +kernel
theorem dX11_odds_21 : decode cX11_odds 21 = .ok (.invokestatic 96, 3) := by decide +kernel
theorem dX11_odds_24 : decode cX11_odds 24 = .ok (.ifCond .ne 7, 3) := by decide +kernel
theorem dX11_odds_27 : decode cX11_odds 27 = .ok (.ldc2_w 290, 3) := by decide +kernel
theorem dX11_odds_30 : decode cX11_odds 30 = .ok (.lreturn, 1) := by decide +kernel
theorem dX11_odds_31 : decode cX11_odds 31 = .ok (.lconst 0, 1) := by decide +kernel
theorem dX11_odds_32 : decode cX11_odds 32 = .ok (.lstore 4, 2) := by decide +kernel
theorem dX11_odds_34 : decode cX11_odds 34 = .ok (.iconst 0, 1) := by decide +kernel
theorem dX11_odds_35 : decode cX11_odds 35 = .ok (.istore 6, 2) := by decide +kernel
theorem dX11_odds_37 : decode cX11_odds 37 = .ok (.iload 6, 2) := by decide +kernel
theorem dX11_odds_39 : decode cX11_odds 39 = .ok (.iconst 1, 1) := by decide +kernel
theorem dX11_odds_40 : decode cX11_odds 40 = .ok (.aload_n 0, 1) := by decide +kernel
theorem dX11_odds_41 : decode cX11_odds 41 = .ok (.getfield 88, 3) := by decide +kernel
theorem dX11_odds_44 : decode cX11_odds 44 = .ok (.getfield 166, 3) := by decide +kernel
theorem dX11_odds_47 : decode cX11_odds 47 = .ok (.ishl, 1) := by decide +kernel
theorem dX11_odds_48 : decode cX11_odds 48 = .ok (.if_icmp .ge 41, 3) := by decide +kernel
theorem dX11_odds_51 : decode cX11_odds 51 = .ok (.aload_n 0, 1) := by decide +kernel
theorem dX11_odds_52 : decode cX11_odds 52 = .ok (.iload 6, 2) := by decide +kernel
theorem dX11_odds_54 : decode cX11_odds 54 = .ok (.iload_n 2, 1) := by decide +kernel
theorem dX11_odds_55 : decode cX11_odds 55 = .ok (.invokevirtual 292, 3) := by decide +kernel
theorem dX11_odds_58 : decode cX11_odds 58 = .ok (.istore 7, 2) := by decide +kernel
theorem dX11_odds_60 : decode cX11_odds 60 = .ok (.iload 7, 2) := by decide +kernel
theorem dX11_odds_62 : decode cX11_odds 62 = .ok (.ifCond .le 21, 3) := by decide +kernel
theorem dX11_odds_65 : decode cX11_odds 65 = .ok (.aload_n 0, 1) := by decide +kernel
theorem dX11_odds_66 : decode cX11_odds 66 = .ok (.iload 6, 2) := by decide +kernel
theorem dX11_odds_68 : decode cX11_odds 68 = .ok (.invokevirtual 295, 3) := by decide +kernel
theorem dX11_odds_71 : decode cX11_odds 71 = .ok (.iload_n 1, 1) := by decide +kernel
theorem dX11_odds_72 : decode cX11_odds 72 = .ok (.if_icmp .ne 11, 3) := by decide +kernel
theorem dX11_odds_75 : decode cX11_odds 75 = .ok (.lload 4, 2) := by decide +kernel
theorem dX11_odds_77 : decode cX11_odds 77 = .ok (.iload 7, 2) := by decide +kernel
theorem dX11_odds_79 : decode cX11_odds 79 = .ok (.i2l, 1) := by decide +kernel
theorem dX11_odds_80 : decode cX11_odds 80 = .ok (.ladd, 1) := by decide +kernel
theorem dX11_odds_81 : decode cX11_odds 81 = .ok (.lstore 4, 2) := by decide +kernel
theorem dX11_odds_83 : decode cX11_odds 83 = .ok (.iinc 6 1, 3) := by decide +kernel
theorem dX11_odds_86 : decode cX11_odds 86 = .ok (.goto (-49), 3) := by decide +kernel
theorem dX11_odds_89 : decode cX11_odds 89 = .ok (.lconst 1, 1) := by decide +kernel
theorem dX11_odds_90 : decode cX11_odds 90 = .ok (.lstore 6, 2) := by decide +kernel
theorem dX11_odds_92 : decode cX11_odds 92 = .ok (.iconst 0, 1) := by decide +kernel
theorem dX11_odds_93 : decode cX11_odds 93 = .ok (.istore 8, 2) := by decide +kernel
theorem dX11_odds_95 : decode cX11_odds 95 = .ok (.iload 8, 2) := by decide +kernel
theorem dX11_odds_97 : decode cX11_odds 97 = .ok (.aload_n 0, 1) := by decide +kernel
theorem dX11_odds_98 : decode cX11_odds 98 = .ok (.getfield 88, 3) := by decide +kernel
theorem dX11_odds_101 : decode cX11_odds 101 = .ok (.getfield 166, 3) := by decide +kernel
theorem dX11_odds_104 : decode cX11_odds 104 = .ok (.if_icmp .ge 37, 3) := by decide +kernel
theorem dX11_odds_107 : decode cX11_odds 107 = .ok (.lload 6, 2) := by decide +kernel
theorem dX11_odds_109 : decode cX11_odds 109 = .ok (.aload_n 0, 1) := by decide +kernel
theorem dX11_odds_110 : decode cX11_odds 110 = .ok (.getfield 88, 3) := by decide +kernel
theorem dX11_odds_113 : decode cX11_odds 113 = .ok (.getfield 184, 3) := by decide +kernel
theorem dX11_odds_116 : decode cX11_odds 116 = .ok (.iload 8, 2) := by decide +kernel
theorem dX11_odds_118 : decode cX11_odds 118 = .ok (.aaload, 1) := by decide +kernel
theorem dX11_odds_119 : decode cX11_odds 119 = .ok (.getfield 237, 3) := by decide +kernel
theorem dX11_odds_122 : decode cX11_odds 122 = .ok (.ifCond .eq 9, 3) := by decide +kernel
theorem dX11_odds_125 : decode cX11_odds 125 = .ok (.ldc2_w 298, 3) := by decide +kernel
theorem dX11_odds_128 : decode cX11_odds 128 = .ok (.goto 4, 3) := by decide +kernel
theorem dX11_odds_131 : decode cX11_odds 131 = .ok (.lconst 1, 1) := by decide +kernel
theorem dX11_odds_132 : decode cX11_odds 132 = .ok (.lmul, 1) := by decide +kernel
theorem dX11_odds_133 : decode cX11_odds 133 = .ok (.lstore 6, 2) := by decide +kernel
theorem dX11_odds_135 : decode cX11_odds 135 = .ok (.iinc 8 1, 3) := by decide +kernel
theorem dX11_odds_138 : decode cX11_odds 138 = .ok (.goto (-43), 3) := by decide +kernel
theorem dX11_odds_141 : decode cX11_odds 141 = .ok (.lload 4, 2) := by decide +kernel
theorem dX11_odds_143 : decode cX11_odds 143 = .ok (.lload 6, 2) := by decide +kernel
theorem dX11_odds_145 : decode cX11_odds 145 = .ok (.invokestatic 300, 3) := by decide +kernel
theorem dX11_odds_148 : decode cX11_odds 148 = .ok (.lconst 1, 1) := by decide +kernel
theorem dX11_odds_149 : decode cX11_odds 149 = .ok (.invokestatic 304, 3) := by decide +kernel
theorem dX11_odds_152 : decode cX11_odds 152 = .ok (.lstore 8, 2) := by decide +kernel
theorem dX11_odds_154 : decode cX11_odds 154 = .ok (.iload_n 3, 1) := by decide +kernel
theorem dX11_odds_155 : decode cX11_odds 155 = .ok (.ifCond .ne 8, 3) := by decide +kernel
theorem dX11_odds_158 : decode cX11_odds 158 = .ok (.lload 4, 2) := by decide +kernel
theorem dX11_odds_160 : decode cX11_odds 160 = .ok (.goto 5, 3) := by decide +kernel
theorem dX11_odds_163 : decode cX11_odds 163 = .ok (.lload 6, 2) := by decide +kernel
theorem dX11_odds_165 : decode cX11_odds 165 = .ok (.lload 8, 2) := by decide +kernel
theorem dX11_odds_167 : decode cX11_odds 167 = .ok (.ldiv, 1) := by decide +kernel
theorem dX11_odds_168 : decode cX11_odds 168 = .ok (.lreturn, 1) := by decide +kernel
theorem dX11_drawn_0 : decode cX11_drawn 0 = .ok (.aload_n 0, 1) := by decide +kernel
theorem dX11_drawn_1 : decode cX11_drawn 1 = .ok (.invokevirtual 193, 3) := by decide +kernel
theorem dX11_drawn_4 : decode cX11_drawn 4 = .ok (.ifCond .eq 6, 3) := by decide +kernel
theorem dX11_drawn_7 : decode cX11_drawn 7 = .ok (.ldc 169, 2) := by decide +kernel
theorem dX11_drawn_9 : decode cX11_drawn 9 = .ok (.ireturn, 1) := by decide +kernel
theorem dX11_drawn_10 : decode cX11_drawn 10 = .ok (.iload_n 1, 1) := by decide +kernel
theorem dX11_drawn_11 : decode cX11_drawn 11 = .ok (.iconst 0, 1) := by decide +kernel
theorem dX11_drawn_12 : decode cX11_drawn 12 = .ok (.bipush 60, 2) := by decide +kernel
theorem dX11_drawn_14 : decode cX11_drawn 14 = .ok (.invokestatic 96, 3) := by decide +kernel
theorem dX11_drawn_17 : decode cX11_drawn 17 = .ok (.ifCond .eq 23, 3) := by decide +kernel
theorem dX11_drawn_20 : decode cX11_drawn 20 = .ok (.iload_n 2, 1) := by decide +kernel
theorem dX11_drawn_21 : decode cX11_drawn 21 = .ok (.iconst 1, 1) := by decide +kernel
theorem dX11_drawn_22 : decode cX11_drawn 22 = .ok (.ldc_w 307, 3) := by decide +kernel
theorem dX11_drawn_25 : decode cX11_drawn 25 = .ok (.invokestatic 96, 3) := by decide +kernel
theorem dX11_drawn_28 : decode cX11_drawn 28 = .ok (.ifCond .eq 12, 3) := by decide +kernel
theorem dX11_drawn_31 : decode cX11_drawn 31 = .ok (.iload_n 3, 1) := by decide +kernel
theorem dX11_drawn_32 : decode cX11_drawn 32 = .ok (.iconst 0, 1) := by decide +kernel
theorem dX11_drawn_33 : decode cX11_drawn 33 = .ok (.iconst 1, 1) := by decide +kernel
theorem dX11_drawn_34 : decode cX11_drawn 34 = .ok (.invokestatic 96, 3) := by decide +kernel
theorem dX11_drawn_37 : decode cX11_drawn 37 = .ok (.ifCond .ne 6, 3) := by decide +kernel
theorem dX11_drawn_40 : decode cX11_drawn 40 = .ok (.ldc 100, 2) := by decide +kernel
theorem dX11_drawn_42 : decode cX11_drawn 42 = .ok (.ireturn, 1) := by decide +kernel
theorem dX11_drawn_43 : decode cX11_drawn 43 = .ok (.iload_n 2, 1) := by decide +kernel
theorem dX11_drawn_44 : decode cX11_drawn 44 = .ok (.i2l, 1) := by decide +kernel
theorem dX11_drawn_45 : decode cX11_drawn 45 = .ok (.lstore 4, 2) := by decide +kernel
theorem dX11_drawn_47 : decode cX11_drawn 47 = .ok (.aload_n 0, 1) := by decide +kernel
theorem dX11_drawn_48 : decode cX11_drawn 48 = .ok (.getfield 92, 3) := by decide +kernel
theorem dX11_drawn_51 : decode cX11_drawn 51 = .ok (.aload_n 0, 1) := by decide +kernel
theorem dX11_drawn_52 : decode cX11_drawn 52 = .ok (.getfield 88, 3) := by decide +kernel
theorem dX11_drawn_55 : decode cX11_drawn 55 = .ok (.invokevirtual 159, 3) := by decide +kernel
theorem dX11_drawn_58 : decode cX11_drawn 58 = .ok (.iconst 0, 1) := by decide +kernel
theorem dX11_drawn_59 : decode cX11_drawn 59 = .ok (.istore 6, 2) := by decide +kernel
theorem dX11_drawn_61 : decode cX11_drawn 61 = .ok (.iload 6, 2) := by decide +kernel
theorem dX11_drawn_63 : decode cX11_drawn 63 = .ok (.iload_n 1, 1) := by decide +kernel
theorem dX11_drawn_64 : decode cX11_drawn 64 = .ok (.if_icmp .ge 47, 3) := by decide +kernel
theorem dX11_drawn_67 : decode cX11_drawn 67 = .ok (.lload 4, 2) := by decide +kernel
theorem dX11_drawn_69 : decode cX11_drawn 69 = .ok (.ldc2_w 308, 3) := by decide +kernel
theorem dX11_drawn_72 : decode cX11_drawn 72 = .ok (.lmul, 1) := by decide +kernel
theorem dX11_drawn_73 : decode cX11_drawn 73 = .ok (.ldc2_w 310, 3) := by decide +kernel
theorem dX11_drawn_76 : decode cX11_drawn 76 = .ok (.lrem, 1) := by decide +kernel
theorem dX11_drawn_77 : decode cX11_drawn 77 = .ok (.lstore 4, 2) := by decide +kernel
theorem dX11_drawn_79 : decode cX11_drawn 79 = .ok (.aload_n 0, 1) := by decide +kernel
theorem dX11_drawn_80 : decode cX11_drawn 80 = .ok (.getfield 92, 3) := by decide +kernel
theorem dX11_drawn_83 : decode cX11_drawn 83 = .ok (.lload 4, 2) := by decide +kernel
theorem dX11_drawn_85 : decode cX11_drawn 85 = .ok (.aload_n 0, 1) := by decide +kernel
theorem dX11_drawn_86 : decode cX11_drawn 86 = .ok (.getfield 88, 3) := by decide +kernel
theorem dX11_drawn_89 : decode cX11_drawn 89 = .ok (.getfield 166, 3) := by decide +kernel
theorem dX11_drawn_92 : decode cX11_drawn 92 = .ok (.i2l, 1) := by decide +kernel
theorem dX11_drawn_93 : decode cX11_drawn 93 = .ok (.lrem, 1) := by decide +kernel
theorem dX11_drawn_94 : decode cX11_drawn 94 = .ok (.l2i, 1) := by decide +kernel
theorem dX11_drawn_95 : decode cX11_drawn 95 = .ok (.putfield 252, 3) := by decide +kernel
theorem dX11_drawn_98 : decode cX11_drawn 98 = .ok (.aload_n 0, 1) := by decide +kernel
theorem dX11_drawn_99 : decode cX11_drawn 99 = .ok (.getfield 92, 3) := by decide +kernel
theorem dX11_drawn_102 : decode cX11_drawn 102 = .ok (.invokevirtual 213, 3) := by decide +kernel
theorem dX11_drawn_105 : decode cX11_drawn 105 = .ok (.iinc 6 1, 3) := by decide +kernel
theorem dX11_drawn_108 : decode cX11_drawn 108 = .ok (.goto (-47), 3) := by decide +kernel
theorem dX11_drawn_111 : decode cX11_drawn 111 = .ok (.iload_n 3, 1) := by decide +kernel
theorem dX11_drawn_112 : decode cX11_drawn 112 = .ok (.ifCond .ne 13, 3) := by decide +kernel
theorem dX11_drawn_115 : decode cX11_drawn 115 = .ok (.aload_n 0, 1) := by decide +kernel
theorem dX11_drawn_116 : decode cX11_drawn 116 = .ok (.getfield 92, 3) := by decide +kernel
theorem dX11_drawn_119 : decode cX11_drawn 119 = .ok (.getfield 216, 3) := by decide +kernel
theorem dX11_drawn_122 : decode cX11_drawn 122 = .ok (.goto 10, 3) := by decide +kernel
theorem dX11_drawn_125 : decode cX11_drawn 125 = .ok (.aload_n 0, 1) := by decide +kernel
theorem dX11_drawn_126 : decode cX11_drawn 126 = .ok (.getfield 92, 3) := by decide +kernel
theorem dX11_drawn_129 : decode cX11_drawn 129 = .ok (.invokevirtual 275, 3) := by decide +kernel
theorem dX11_drawn_132 : decode cX11_drawn 132 = .ok (.ireturn, 1) := by decide +kernel
theorem dX11_image_0 : decode cX11_image 0 = .ok (.iload_n 1, 1) := by decide +kernel
theorem dX11_image_1 : decode cX11_image 1 = .ok (.iconst 0, 1) := by decide +kernel
theorem dX11_image_2 : decode cX11_image 2 = .ok (.iconst 1, 1) := by decide +kernel
theorem dX11_image_3 : decode cX11_image 3 = .ok (.invokestatic 96, 3) := by decide +kernel
theorem dX11_image_6 : decode cX11_image 6 = .ok (.ifCond .ne 6, 3) := by decide +kernel
theorem dX11_image_9 : decode cX11_image 9 = .ok (.ldc 100, 2) := by decide +kernel
theorem dX11_image_11 : decode cX11_image 11 = .ok (.ireturn, 1) := by decide +kernel
theorem dX11_image_12 : decode cX11_image 12 = .ok (.aload_n 0, 1) := by decide +kernel
theorem dX11_image_13 : decode cX11_image 13 = .ok (.invokevirtual 193, 3) := by decide +kernel
theorem dX11_image_16 : decode cX11_image 16 = .ok (.ifCond .eq 6, 3) := by decide +kernel
theorem dX11_image_19 : decode cX11_image 19 = .ok (.ldc 169, 2) := by decide +kernel
theorem dX11_image_21 : decode cX11_image 21 = .ok (.ireturn, 1) := by decide +kernel
theorem dX11_image_22 : decode cX11_image 22 = .ok (.aload_n 0, 1) := by decide +kernel
theorem dX11_image_23 : decode cX11_image 23 = .ok (.getfield 37, 3) := by decide +kernel
theorem dX11_image_26 : decode cX11_image 26 = .ok (.iload_n 1, 1) := by decide +kernel
theorem dX11_image_27 : decode cX11_image 27 = .ok (.aaload, 1) := by decide +kernel
theorem dX11_image_28 : decode cX11_image 28 = .ok (.aload_n 0, 1) := by decide +kernel
theorem dX11_image_29 : decode cX11_image 29 = .ok (.getfield 88, 3) := by decide +kernel
theorem dX11_image_32 : decode cX11_image 32 = .ok (.invokevirtual 159, 3) := by decide +kernel
theorem dX11_image_35 : decode cX11_image 35 = .ok (.iconst 1, 1) := by decide +kernel
theorem dX11_image_36 : decode cX11_image 36 = .ok (.ireturn, 1) := by decide +kernel
theorem dX11_restore_0 : decode cX11_restore 0 = .ok (.iload_n 1, 1) := by decide +kernel
theorem dX11_restore_1 : decode cX11_restore 1 = .ok (.iconst 0, 1) := by decide +kernel
theorem dX11_restore_2 : decode cX11_restore 2 = .ok (.iconst 1, 1) := by decide +kernel
theorem dX11_restore_3 : decode cX11_restore 3 = .ok (.invokestatic 96, 3) := by decide +kernel
theorem dX11_restore_6 : decode cX11_restore 6 = .ok (.ifCond .ne 6, 3) := by decide +kernel
theorem dX11_restore_9 : decode cX11_restore 9 = .ok (.ldc 100, 2) := by decide +kernel
theorem dX11_restore_11 : decode cX11_restore 11 = .ok (.ireturn, 1) := by decide +kernel
theorem dX11_restore_12 : decode cX11_restore 12 = .ok (.aload_n 0, 1) := by decide +kernel
theorem dX11_restore_13 : decode cX11_restore 13 = .ok (.getfield 37, 3) := by decide +kernel
theorem dX11_restore_16 : decode cX11_restore 16 = .ok (.iload_n 1, 1) := by decide +kernel
theorem dX11_restore_17 : decode cX11_restore 17 = .ok (.aaload, 1) := by decide +kernel
theorem dX11_restore_18 : decode cX11_restore 18 = .ok (.getfield 166, 3) := by decide +kernel
theorem dX11_restore_21 : decode cX11_restore 21 = .ok (.ifCond .ne 6, 3) := by decide +kernel
theorem dX11_restore_24 : decode cX11_restore 24 = .ok (.ldc 169, 2) := by decide +kernel
theorem dX11_restore_26 : decode cX11_restore 26 = .ok (.ireturn, 1) := by decide +kernel
theorem dX11_restore_27 : decode cX11_restore 27 = .ok (.aload_n 0, 1) := by decide +kernel
theorem dX11_restore_28 : decode cX11_restore 28 = .ok (.getfield 88, 3) := by decide +kernel
theorem dX11_restore_31 : decode cX11_restore 31 = .ok (.aload_n 0, 1) := by decide +kernel
theorem dX11_restore_32 : decode cX11_restore 32 = .ok (.getfield 37, 3) := by decide +kernel
theorem dX11_restore_35 : decode cX11_restore 35 = .ok (.iload_n 1, 1) := by decide +kernel
theorem dX11_restore_36 : decode cX11_restore 36 = .ok (.aaload, 1) := by decide +kernel
theorem dX11_restore_37 : decode cX11_restore 37 = .ok (.invokevirtual 159, 3) := by decide +kernel
theorem dX11_restore_40 : decode cX11_restore 40 = .ok (.aload_n 0, 1) := by decide +kernel
theorem dX11_restore_41 : decode cX11_restore 41 = .ok (.invokevirtual 163, 3) := by decide +kernel
theorem dX11_restore_44 : decode cX11_restore 44 = .ok (.iconst 1, 1) := by decide +kernel
theorem dX11_restore_45 : decode cX11_restore 45 = .ok (.ireturn, 1) := by decide +kernel
theorem dX11_kind_0 : decode cX11_kind 0 = .ok (.aload_n 0, 1) := by decide +kernel
theorem dX11_kind_1 : decode cX11_kind 1 = .ok (.iload_n 1, 1) := by decide +kernel
theorem dX11_kind_2 : decode cX11_kind 2 = .ok (.invokevirtual 170, 3) := by decide +kernel
theorem dX11_kind_5 : decode cX11_kind 5 = .ok (.ifCond .eq 21, 3) := by decide +kernel
theorem dX11_kind_8 : decode cX11_kind 8 = .ok (.aload_n 0, 1) := by decide +kernel
theorem dX11_kind_9 : decode cX11_kind 9 = .ok (.getfield 88, 3) := by decide +kernel
theorem dX11_kind_12 : decode cX11_kind 12 = .ok (.getfield 184, 3) := by decide +kernel
theorem dX11_kind_15 : decode cX11_kind 15 = .ok (.iload_n 1, 1) := by decide +kernel
theorem dX11_kind_16 : decode cX11_kind 16 = .ok (.aaload, 1) := by decide +kernel
theorem dX11_kind_17 : decode cX11_kind 17 = .ok (.getfield 286, 3) := by decide +kernel
theorem dX11_kind_20 : decode cX11_kind 20 = .ok (.invokevirtual 312, 3) := by decide +kernel
theorem dX11_kind_23 : decode cX11_kind 23 = .ok (.goto 5, 3) := by decide +kernel
theorem dX11_kind_26 : decode cX11_kind 26 = .ok (.ldc 100, 2) := by decide +kernel
theorem dX11_kind_28 : decode cX11_kind 28 = .ok (.ireturn, 1) := by decide +kernel
theorem dX11_as_0 : decode cX11_as 0 = .ok (.aload_n 0, 1) := by decide +kernel
theorem dX11_as_1 : decode cX11_as 1 = .ok (.iload_n 1, 1) := by decide +kernel
theorem dX11_as_2 : decode cX11_as 2 = .ok (.invokevirtual 170, 3) := by decide +kernel
theorem dX11_as_5 : decode cX11_as 5 = .ok (.ifCond .eq 12, 3) := by decide +kernel
theorem dX11_as_8 : decode cX11_as 8 = .ok (.iload_n 2, 1) := by decide +kernel
theorem dX11_as_9 : decode cX11_as 9 = .ok (.iconst 0, 1) := by decide +kernel
theorem dX11_as_10 : decode cX11_as 10 = .ok (.iconst 5, 1) := by decide +kernel
theorem dX11_as_11 : decode cX11_as 11 = .ok (.invokestatic 96, 3) := by decide +kernel
theorem dX11_as_14 : decode cX11_as 14 = .ok (.ifCond .ne 6, 3) := by decide +kernel
theorem dX11_as_17 : decode cX11_as 17 = .ok (.ldc 100, 2) := by decide +kernel
theorem dX11_as_19 : decode cX11_as 19 = .ok (.ireturn, 1) := by decide +kernel
theorem dX11_as_20 : decode cX11_as 20 = .ok (.aload_n 0, 1) := by decide +kernel
theorem dX11_as_21 : decode cX11_as 21 = .ok (.getfield 88, 3) := by decide +kernel
theorem dX11_as_24 : decode cX11_as 24 = .ok (.getfield 184, 3) := by decide +kernel
theorem dX11_as_27 : decode cX11_as 27 = .ok (.iload_n 1, 1) := by decide +kernel
theorem dX11_as_28 : decode cX11_as 28 = .ok (.aaload, 1) := by decide +kernel
theorem dX11_as_29 : decode cX11_as 29 = .ok (.getfield 286, 3) := by decide +kernel
theorem dX11_as_32 : decode cX11_as 32 = .ok (.iload_n 2, 1) := by decide +kernel
theorem dX11_as_33 : decode cX11_as 33 = .ok (.invokestatic 315, 3) := by decide +kernel
theorem dX11_as_36 : decode cX11_as 36 = .ok (.ifCond .eq 11, 3) := by decide +kernel
theorem dX11_as_39 : decode cX11_as 39 = .ok (.aload_n 0, 1) := by decide +kernel
theorem dX11_as_40 : decode cX11_as 40 = .ok (.iload_n 1, 1) := by decide +kernel
theorem dX11_as_41 : decode cX11_as 41 = .ok (.invokevirtual 109, 3) := by decide +kernel
theorem dX11_as_44 : decode cX11_as 44 = .ok (.goto 8, 3) := by decide +kernel
theorem dX11_as_47 : decode cX11_as 47 = .ok (.aload_n 0, 1) := by decide +kernel
theorem dX11_as_48 : decode cX11_as 48 = .ok (.iconst 3, 1) := by decide +kernel
theorem dX11_as_49 : decode cX11_as 49 = .ok (.invokevirtual 101, 3) := by decide +kernel
theorem dX11_as_52 : decode cX11_as 52 = .ok (.ireturn, 1) := by decide +kernel
theorem dX11_ask_0 : decode cX11_ask 0 = .ok (.aload_n 0, 1) := by decide +kernel
theorem dX11_ask_1 : decode cX11_ask 1 = .ok (.iload_n 1, 1) := by decide +kernel
theorem dX11_ask_2 : decode cX11_ask 2 = .ok (.invokevirtual 170, 3) := by decide +kernel
theorem dX11_ask_5 : decode cX11_ask 5 = .ok (.ifCond .eq 12, 3) := by decide +kernel
theorem dX11_ask_8 : decode cX11_ask 8 = .ok (.iload_n 2, 1) := by decide +kernel
theorem dX11_ask_9 : decode cX11_ask 9 = .ok (.iconst 0, 1) := by decide +kernel
theorem dX11_ask_10 : decode cX11_ask 10 = .ok (.iconst 1, 1) := by decide +kernel
theorem dX11_ask_11 : decode cX11_ask 11 = .ok (.invokestatic 96, 3) := by decide +kernel
theorem dX11_ask_14 : decode cX11_ask 14 = .ok (.ifCond .ne 6, 3) := by decide +kernel
theorem dX11_ask_17 : decode cX11_ask 17 = .ok (.ldc 100, 2) := by decide +kernel
theorem dX11_ask_19 : decode cX11_ask 19 = .ok (.ireturn, 1) := by decide +kernel
theorem dX11_ask_20 : decode cX11_ask 20 = .ok (.aload_n 0, 1) := by decide +kernel
theorem dX11_ask_21 : decode cX11_ask 21 = .ok (.getfield 88, 3) := by decide +kernel
theorem dX11_ask_24 : decode cX11_ask 24 = .ok (.getfield 184, 3) := by decide +kernel
theorem dX11_ask_27 : decode cX11_ask 27 = .ok (.iload_n 1, 1) := by decide +kernel
theorem dX11_ask_28 : decode cX11_ask 28 = .ok (.aaload, 1) := by decide +kernel
theorem dX11_ask_29 : decode cX11_ask 29 = .ok (.astore_n 3, 1) := by decide +kernel
theorem dX11_ask_30 : decode cX11_ask 30 = .ok (.aload_n 0, 1) := by decide +kernel
theorem dX11_ask_31 : decode cX11_ask 31 = .ok (.getfield 31, 3) := by decide +kernel
theorem dX11_ask_34 : decode cX11_ask 34 = .ok (.iconst 0, 1) := by decide +kernel
theorem dX11_ask_35 : decode cX11_ask 35 = .ok (.putfield 319, 3) := by decide +kernel
theorem dX11_ask_38 : decode cX11_ask 38 = .ok (.iload_n 2, 1) := by decide +kernel
theorem dX11_ask_39 : decode cX11_ask 39 = .ok (.ifCond .ne 18, 3) := by decide +kernel
theorem dX11_ask_42 : decode cX11_ask 42 = .ok (.aload_n 3, 1) := by decide +kernel
theorem dX11_ask_43 : decode cX11_ask 43 = .ok (.getfield 286, 3) := by decide +kernel
theorem dX11_ask_46 : decode cX11_ask 46 = .ok (.aload_n 3, 1) := by decide +kernel
theorem dX11_ask_47 : decode cX11_ask 47 = .ok (.aload_n 0, 1) := by decide +kernel
theorem dX11_ask_48 : decode cX11_ask 48 = .ok (.getfield 31, 3) := by decide +kernel
theorem dX11_ask_51 : decode cX11_ask 51 = .ok (.invokevirtual 320, 3) := by decide +kernel
theorem dX11_ask_54 : decode cX11_ask 54 = .ok (.goto 15, 3) := by decide +kernel
theorem dX11_ask_57 : decode cX11_ask 57 = .ok (.aload_n 3, 1) := by decide +kernel
theorem dX11_ask_58 : decode cX11_ask 58 = .ok (.getfield 286, 3) := by decide +kernel
theorem dX11_ask_61 : decode cX11_ask 61 = .ok (.aload_n 3, 1) := by decide +kernel
theorem dX11_ask_62 : decode cX11_ask 62 = .ok (.aload_n 0, 1) := by decide +kernel
theorem dX11_ask_63 : decode cX11_ask 63 = .ok (.getfield 31, 3) := by decide +kernel
theorem dX11_ask_66 : decode cX11_ask 66 = .ok (.invokevirtual 323, 3) := by decide +kernel
theorem dX11_ask_69 : decode cX11_ask 69 = .ok (.ireturn, 1) := by decide +kernel
theorem dX11_trace_0 : decode cX11_trace 0 = .ok (.iload_n 1, 1) := by decide +kernel
theorem dX11_trace_1 : decode cX11_trace 1 = .ok (.iconst 0, 1) := by decide +kernel
theorem dX11_trace_2 : decode cX11_trace 2 = .ok (.aload_n 0, 1) := by decide +kernel
theorem dX11_trace_3 : decode cX11_trace 3 = .ok (.getfield 31, 3) := by decide +kernel
theorem dX11_trace_6 : decode cX11_trace 6 = .ok (.getfield 319, 3) := by decide +kernel
theorem dX11_trace_9 : decode cX11_trace 9 = .ok (.iconst 1, 1) := by decide +kernel
theorem dX11_trace_10 : decode cX11_trace 10 = .ok (.isub, 1) := by decide +kernel
theorem dX11_trace_11 : decode cX11_trace 11 = .ok (.invokestatic 96, 3) := by decide +kernel
theorem dX11_trace_14 : decode cX11_trace 14 = .ok (.ifCond .eq 15, 3) := by decide +kernel
theorem dX11_trace_17 : decode cX11_trace 17 = .ok (.aload_n 0, 1) := by decide +kernel
theorem dX11_trace_18 : decode cX11_trace 18 = .ok (.getfield 31, 3) := by decide +kernel
theorem dX11_trace_21 : decode cX11_trace 21 = .ok (.getfield 326, 3) := by decide +kernel
theorem dX11_trace_24 : decode cX11_trace 24 = .ok (.iload_n 1, 1) := by decide +kernel
theorem dX11_trace_25 : decode cX11_trace 25 = .ok (.iaload, 1) := by decide +kernel
theorem dX11_trace_26 : decode cX11_trace 26 = .ok (.goto 6, 3) := by decide +kernel
theorem dX11_trace_29 : decode cX11_trace 29 = .ok (.ldc_w 271, 3) := by decide +kernel
theorem dX11_trace_32 : decode cX11_trace 32 = .ok (.ireturn, 1) := by decide +kernel
theorem dX11_count_0 : decode cX11_count 0 = .ok (.iload_n 1, 1) := by decide +kernel
theorem dX11_count_1 : decode cX11_count 1 = .ok (.tableswitch 117 0 8 #[51, 56, 64, 72, 80, 88, 96, 104, 109], 51) := by decide +kernel
theorem dX11_count_52 : decode cX11_count 52 = .ok (.aload_n 0, 1) := by decide +kernel
theorem dX11_count_53 : decode cX11_count 53 = .ok (.invokevirtual 329, 3) := by decide +kernel
theorem dX11_count_56 : decode cX11_count 56 = .ok (.ireturn, 1) := by decide +kernel
theorem dX11_count_57 : decode cX11_count 57 = .ok (.aload_n 0, 1) := by decide +kernel
theorem dX11_count_58 : decode cX11_count 58 = .ok (.getfield 88, 3) := by decide +kernel
theorem dX11_count_61 : decode cX11_count 61 = .ok (.getfield 166, 3) := by decide +kernel
theorem dX11_count_64 : decode cX11_count 64 = .ok (.ireturn, 1) := by decide +kernel
theorem dX11_count_65 : decode cX11_count 65 = .ok (.aload_n 0, 1) := by decide +kernel
theorem dX11_count_66 : decode cX11_count 66 = .ok (.getfield 88, 3) := by decide +kernel
theorem dX11_count_69 : decode cX11_count 69 = .ok (.getfield 332, 3) := by decide +kernel
theorem dX11_count_72 : decode cX11_count 72 = .ok (.ireturn, 1) := by decide +kernel
theorem dX11_count_73 : decode cX11_count 73 = .ok (.aload_n 0, 1) := by decide +kernel
theorem dX11_count_74 : decode cX11_count 74 = .ok (.getfield 88, 3) := by decide +kernel
theorem dX11_count_77 : decode cX11_count 77 = .ok (.getfield 333, 3) := by decide +kernel
theorem dX11_count_80 : decode cX11_count 80 = .ok (.ireturn, 1) := by decide +kernel
theorem dX11_count_81 : decode cX11_count 81 = .ok (.aload_n 0, 1) := by decide +kernel
theorem dX11_count_82 : decode cX11_count 82 = .ok (.getfield 88, 3) := by decide +kernel
theorem dX11_count_85 : decode cX11_count 85 = .ok (.getfield 196, 3) := by decide +kernel
theorem dX11_count_88 : decode cX11_count 88 = .ok (.ireturn, 1) := by decide +kernel
theorem dX11_count_89 : decode cX11_count 89 = .ok (.aload_n 0, 1) := by decide +kernel
theorem dX11_count_90 : decode cX11_count 90 = .ok (.getfield 88, 3) := by decide +kernel
theorem dX11_count_93 : decode cX11_count 93 = .ok (.getfield 210, 3) := by decide +kernel
theorem dX11_count_96 : decode cX11_count 96 = .ok (.ireturn, 1) := by decide +kernel
theorem dX11_count_97 : decode cX11_count 97 = .ok (.aload_n 0, 1) := by decide +kernel
theorem dX11_count_98 : decode cX11_count 98 = .ok (.getfield 88, 3) := by decide +kernel
theorem dX11_count_101 : decode cX11_count 101 = .ok (.invokevirtual 275, 3) := by decide +kernel
theorem dX11_count_104 : decode cX11_count 104 = .ok (.ireturn, 1) := by decide +kernel
theorem dX11_count_105 : decode cX11_count 105 = .ok (.aload_n 0, 1) := by decide +kernel
theorem dX11_count_106 : decode cX11_count 106 = .ok (.getfield 44, 3) := by decide +kernel
theorem dX11_count_109 : decode cX11_count 109 = .ok (.ireturn, 1) := by decide +kernel
theorem dX11_count_110 : decode cX11_count 110 = .ok (.aload_n 0, 1) := by decide +kernel
theorem dX11_count_111 : decode cX11_count 111 = .ok (.getfield 18, 3) := by decide +kernel
theorem dX11_count_114 : decode cX11_count 114 = .ok (.getfield 141, 3) := by decide +kernel
theorem dX11_count_117 : decode cX11_count 117 = .ok (.ireturn, 1) := by decide +kernel
theorem dX11_count_118 : decode cX11_count 118 = .ok (.ldc 100, 2) := by decide +kernel
theorem dX11_count_120 : decode cX11_count 120 = .ok (.ireturn, 1) := by decide +kernel
theorem dX11_status_0 : decode cX11_status 0 = .ok (.aload_n 0, 1) := by decide +kernel
theorem dX11_status_1 : decode cX11_status 1 = .ok (.getfield 67, 3) := by decide +kernel
theorem dX11_status_4 : decode cX11_status 4 = .ok (.ireturn, 1) := by decide +kernel
theorem dX11_within_0 : decode cX11_within 0 = .ok (.iload_n 0, 1) := by decide +kernel
theorem dX11_within_1 : decode cX11_within 1 = .ok (.iload_n 1, 1) := by decide +kernel
theorem dX11_within_2 : decode cX11_within 2 = .ok (.if_icmp .lt 12, 3) := by decide +kernel
theorem dX11_within_5 : decode cX11_within 5 = .ok (.iload_n 0, 1) := by decide +kernel
theorem dX11_within_6 : decode cX11_within 6 = .ok (.iload_n 2, 1) := by decide +kernel
theorem dX11_within_7 : decode cX11_within 7 = .ok (.if_icmp .gt 7, 3) := by decide +kernel
theorem dX11_within_10 : decode cX11_within 10 = .ok (.iconst 1, 1) := by decide +kernel
theorem dX11_within_11 : decode cX11_within 11 = .ok (.goto 4, 3) := by decide +kernel
theorem dX11_within_14 : decode cX11_within 14 = .ok (.iconst 0, 1) := by decide +kernel
theorem dX11_within_15 : decode cX11_within 15 = .ok (.ireturn, 1) := by decide +kernel
theorem dX11_noRealm_0 : decode cX11_noRealm 0 = .ok (.aload_n 0, 1) := by decide +kernel
theorem dX11_noRealm_1 : decode cX11_noRealm 1 = .ok (.getfield 88, 3) := by decide +kernel
theorem dX11_noRealm_4 : decode cX11_noRealm 4 = .ok (.getfield 166, 3) := by decide +kernel
theorem dX11_noRealm_7 : decode cX11_noRealm 7 = .ok (.ifCond .ne 7, 3) := by decide +kernel
theorem dX11_noRealm_10 : decode cX11_noRealm 10 = .ok (.iconst 1, 1) := by decide +kernel
theorem dX11_noRealm_11 : decode cX11_noRealm 11 = .ok (.goto 4, 3) := by decide +kernel
theorem dX11_noRealm_14 : decode cX11_noRealm 14 = .ok (.iconst 0, 1) := by decide +kernel
theorem dX11_noRealm_15 : decode cX11_noRealm 15 = .ok (.ireturn, 1) := by decide +kernel
theorem dX11_isHeir_0 : decode cX11_isHeir 0 = .ok (.iload_n 1, 1) := by decide +kernel
theorem dX11_isHeir_1 : decode cX11_isHeir 1 = .ok (.iconst 0, 1) := by decide +kernel
theorem dX11_isHeir_2 : decode cX11_isHeir 2 = .ok (.aload_n 0, 1) := by decide +kernel
theorem dX11_isHeir_3 : decode cX11_isHeir 3 = .ok (.getfield 88, 3) := by decide +kernel
theorem dX11_isHeir_6 : decode cX11_isHeir 6 = .ok (.getfield 166, 3) := by decide +kernel
theorem dX11_isHeir_9 : decode cX11_isHeir 9 = .ok (.iconst 1, 1) := by decide +kernel
theorem dX11_isHeir_10 : decode cX11_isHeir 10 = .ok (.isub, 1) := by decide +kernel
theorem dX11_isHeir_11 : decode cX11_isHeir 11 = .ok (.invokestatic 96, 3) := by decide +kernel
theorem dX11_isHeir_14 : decode cX11_isHeir 14 = .ok (.ireturn, 1) := by decide +kernel
theorem dX11_found_0 : decode cX11_found 0 = .ok (.aload_n 0, 1) := by decide +kernel
theorem dX11_found_1 : decode cX11_found 1 = .ok (.iload_n 1, 1) := by decide +kernel
theorem dX11_found_2 : decode cX11_found 2 = .ok (.putfield 67, 3) := by decide +kernel
theorem dX11_found_5 : decode cX11_found 5 = .ok (.ldc_w 336, 3) := by decide +kernel
theorem dX11_found_8 : decode cX11_found 8 = .ok (.iload_n 1, 1) := by decide +kernel
theorem dX11_found_9 : decode cX11_found 9 = .ok (.isub, 1) := by decide +kernel
theorem dX11_found_10 : decode cX11_found 10 = .ok (.ireturn, 1) := by decide +kernel
theorem dX11_foundNothing_0 : decode cX11_foundNothing 0 = .ok (.aload_n 0, 1) := by decide +kernel
theorem dX11_foundNothing_1 : decode cX11_foundNothing 1 = .ok (.iconst 0, 1) := by decide +kernel
theorem dX11_foundNothing_2 : decode cX11_foundNothing 2 = .ok (.putfield 67, 3) := by decide +kernel
theorem dX11_foundNothing_5 : decode cX11_foundNothing 5 = .ok (.iload_n 1, 1) := by decide +kernel
theorem dX11_foundNothing_6 : decode cX11_foundNothing 6 = .ok (.ireturn, 1) := by decide +kernel
theorem dX11_rowsThere_0 : decode cX11_rowsThere 0 = .ok (.iconst 0, 1) := by decide +kernel
theorem dX11_rowsThere_1 : decode cX11_rowsThere 1 = .ok (.istore_n 1, 1) := by decide +kernel
theorem dX11_rowsThere_2 : decode cX11_rowsThere 2 = .ok (.iconst 0, 1) := by decide +kernel
theorem dX11_rowsThere_3 : decode cX11_rowsThere 3 = .ok (.istore_n 2, 1) := by decide +kernel
theorem dX11_rowsThere_4 : decode cX11_rowsThere 4 = .ok (.iload_n 2, 1) := by decide +kernel
theorem dX11_rowsThere_5 : decode cX11_rowsThere 5 = .ok (.bipush 8, 2) := by decide +kernel
theorem dX11_rowsThere_7 : decode cX11_rowsThere 7 = .ok (.if_icmp .ge 29, 3) := by decide +kernel
theorem dX11_rowsThere_10 : decode cX11_rowsThere 10 = .ok (.iload_n 1, 1) := by decide +kernel
theorem dX11_rowsThere_11 : decode cX11_rowsThere 11 = .ok (.aload_n 0, 1) := by decide +kernel
theorem dX11_rowsThere_12 : decode cX11_rowsThere 12 = .ok (.getfield 11, 3) := by decide +kernel
theorem dX11_rowsThere_15 : decode cX11_rowsThere 15 = .ok (.iload_n 2, 1) := by decide +kernel
theorem dX11_rowsThere_16 : decode cX11_rowsThere 16 = .ok (.aaload, 1) := by decide +kernel
theorem dX11_rowsThere_17 : decode cX11_rowsThere 17 = .ok (.invokevirtual 112, 3) := by decide +kernel
theorem dX11_rowsThere_20 : decode cX11_rowsThere 20 = .ok (.ifCond .eq 7, 3) := by decide +kernel
theorem dX11_rowsThere_23 : decode cX11_rowsThere 23 = .ok (.iconst 0, 1) := by decide +kernel
theorem dX11_rowsThere_24 : decode cX11_rowsThere 24 = .ok (.goto 4, 3) := by decide +kernel
theorem dX11_rowsThere_27 : decode cX11_rowsThere 27 = .ok (.iconst 1, 1) := by decide +kernel
theorem dX11_rowsThere_28 : decode cX11_rowsThere 28 = .ok (.iadd, 1) := by decide +kernel
theorem dX11_rowsThere_29 : decode cX11_rowsThere 29 = .ok (.istore_n 1, 1) := by decide +kernel
theorem dX11_rowsThere_30 : decode cX11_rowsThere 30 = .ok (.iinc 2 1, 3) := by decide +kernel
theorem dX11_rowsThere_33 : decode cX11_rowsThere 33 = .ok (.goto (-29), 3) := by decide +kernel
theorem dX11_rowsThere_36 : decode cX11_rowsThere 36 = .ok (.iload_n 1, 1) := by decide +kernel
theorem dX11_rowsThere_37 : decode cX11_rowsThere 37 = .ok (.ireturn, 1) := by decide +kernel
theorem dX11_keepForUndo_0 : decode cX11_keepForUndo 0 = .ok (.aload_n 0, 1) := by decide +kernel
theorem dX11_keepForUndo_1 : decode cX11_keepForUndo 1 = .ok (.getfield 41, 3) := by decide +kernel
theorem dX11_keepForUndo_4 : decode cX11_keepForUndo 4 = .ok (.aload_n 0, 1) := by decide +kernel
theorem dX11_keepForUndo_5 : decode cX11_keepForUndo 5 = .ok (.getfield 48, 3) := by decide +kernel
theorem dX11_keepForUndo_8 : decode cX11_keepForUndo 8 = .ok (.aaload, 1) := by decide +kernel
theorem dX11_keepForUndo_9 : decode cX11_keepForUndo 9 = .ok (.aload_n 0, 1) := by decide +kernel
theorem dX11_keepForUndo_10 : decode cX11_keepForUndo 10 = .ok (.getfield 88, 3) := by decide +kernel
theorem dX11_keepForUndo_13 : decode cX11_keepForUndo 13 = .ok (.invokevirtual 159, 3) := by decide +kernel
theorem dX11_keepForUndo_16 : decode cX11_keepForUndo 16 = .ok (.aload_n 0, 1) := by decide +kernel
theorem dX11_keepForUndo_17 : decode cX11_keepForUndo 17 = .ok (.aload_n 0, 1) := by decide +kernel
theorem dX11_keepForUndo_18 : decode cX11_keepForUndo 18 = .ok (.getfield 48, 3) := by decide +kernel
theorem dX11_keepForUndo_21 : decode cX11_keepForUndo 21 = .ok (.bipush 23, 2) := by decide +kernel
theorem dX11_keepForUndo_23 : decode cX11_keepForUndo 23 = .ok (.if_icmp .ne 7, 3) := by decide +kernel
theorem dX11_keepForUndo_26 : decode cX11_keepForUndo 26 = .ok (.iconst 0, 1) := by decide +kernel
theorem dX11_keepForUndo_27 : decode cX11_keepForUndo 27 = .ok (.goto 9, 3) := by decide +kernel
theorem dX11_keepForUndo_30 : decode cX11_keepForUndo 30 = .ok (.aload_n 0, 1) := by decide +kernel
theorem dX11_keepForUndo_31 : decode cX11_keepForUndo 31 = .ok (.getfield 48, 3) := by decide +kernel
theorem dX11_keepForUndo_34 : decode cX11_keepForUndo 34 = .ok (.iconst 1, 1) := by decide +kernel
theorem dX11_keepForUndo_35 : decode cX11_keepForUndo 35 = .ok (.iadd, 1) := by decide +kernel
theorem dX11_keepForUndo_36 : decode cX11_keepForUndo 36 = .ok (.putfield 48, 3) := by decide +kernel
theorem dX11_keepForUndo_39 : decode cX11_keepForUndo 39 = .ok (.aload_n 0, 1) := by decide +kernel
theorem dX11_keepForUndo_40 : decode cX11_keepForUndo 40 = .ok (.aload_n 0, 1) := by decide +kernel
theorem dX11_keepForUndo_41 : decode cX11_keepForUndo 41 = .ok (.getfield 44, 3) := by decide +kernel
theorem dX11_keepForUndo_44 : decode cX11_keepForUndo 44 = .ok (.iconst 1, 1) := by decide +kernel
theorem dX11_keepForUndo_45 : decode cX11_keepForUndo 45 = .ok (.iadd, 1) := by decide +kernel
theorem dX11_keepForUndo_46 : decode cX11_keepForUndo 46 = .ok (.bipush 24, 2) := by decide +kernel
theorem dX11_keepForUndo_48 : decode cX11_keepForUndo 48 = .ok (.invokestatic 225, 3) := by decide +kernel
theorem dX11_keepForUndo_51 : decode cX11_keepForUndo 51 = .ok (.putfield 44, 3) := by decide +kernel
theorem dX11_keepForUndo_54 : decode cX11_keepForUndo 54 = .ok (.return_, 1) := by decide +kernel
theorem dX11_forgetActs_0 : decode cX11_forgetActs 0 = .ok (.aload_n 0, 1) := by decide +kernel
theorem dX11_forgetActs_1 : decode cX11_forgetActs 1 = .ok (.iconst 0, 1) := by decide +kernel
theorem dX11_forgetActs_2 : decode cX11_forgetActs 2 = .ok (.putfield 44, 3) := by decide +kernel
theorem dX11_forgetActs_5 : decode cX11_forgetActs 5 = .ok (.aload_n 0, 1) := by decide +kernel
theorem dX11_forgetActs_6 : decode cX11_forgetActs 6 = .ok (.iconst 0, 1) := by decide +kernel
theorem dX11_forgetActs_7 : decode cX11_forgetActs 7 = .ok (.putfield 48, 3) := by decide +kernel
theorem dX11_forgetActs_10 : decode cX11_forgetActs 10 = .ok (.return_, 1) := by decide +kernel
theorem dX11_firstGreatest_0 : decode cX11_firstGreatest 0 = .ok (.iconst 0, 1) := by decide +kernel
theorem dX11_firstGreatest_1 : decode cX11_firstGreatest 1 = .ok (.istore_n 2, 1) := by decide +kernel
theorem dX11_firstGreatest_2 : decode cX11_firstGreatest 2 = .ok (.iconst 1, 1) := by decide +kernel
theorem dX11_firstGreatest_3 : decode cX11_firstGreatest 3 = .ok (.istore_n 3, 1) := by decide +kernel
theorem dX11_firstGreatest_4 : decode cX11_firstGreatest 4 = .ok (.iload_n 3, 1) := by decide +kernel
theorem dX11_firstGreatest_5 : decode cX11_firstGreatest 5 = .ok (.iload_n 1, 1) := by decide +kernel
theorem dX11_firstGreatest_6 : decode cX11_firstGreatest 6 = .ok (.if_icmp .ge 20, 3) := by decide +kernel
theorem dX11_firstGreatest_9 : decode cX11_firstGreatest 9 = .ok (.aload_n 0, 1) := by decide +kernel
theorem dX11_firstGreatest_10 : decode cX11_firstGreatest 10 = .ok (.iload_n 3, 1) := by decide +kernel
theorem dX11_firstGreatest_11 : decode cX11_firstGreatest 11 = .ok (.iaload, 1) := by decide +kernel
theorem dX11_firstGreatest_12 : decode cX11_firstGreatest 12 = .ok (.aload_n 0, 1) := by decide +kernel
theorem dX11_firstGreatest_13 : decode cX11_firstGreatest 13 = .ok (.iload_n 2, 1) := by decide +kernel
theorem dX11_firstGreatest_14 : decode cX11_firstGreatest 14 = .ok (.iaload, 1) := by decide +kernel
theorem dX11_firstGreatest_15 : decode cX11_firstGreatest 15 = .ok (.if_icmp .le 5, 3) := by decide +kernel
theorem dX11_firstGreatest_18 : decode cX11_firstGreatest 18 = .ok (.iload_n 3, 1) := by decide +kernel
theorem dX11_firstGreatest_19 : decode cX11_firstGreatest 19 = .ok (.istore_n 2, 1) := by decide +kernel
theorem dX11_firstGreatest_20 : decode cX11_firstGreatest 20 = .ok (.iinc 3 1, 3) := by decide +kernel
theorem dX11_firstGreatest_23 : decode cX11_firstGreatest 23 = .ok (.goto (-19), 3) := by decide +kernel
theorem dX11_firstGreatest_26 : decode cX11_firstGreatest 26 = .ok (.iload_n 2, 1) := by decide +kernel
theorem dX11_firstGreatest_27 : decode cX11_firstGreatest 27 = .ok (.ireturn, 1) := by decide +kernel
theorem dX11_isOfKind_0 : decode cX11_isOfKind 0 = .ok (.iload_n 1, 1) := by decide +kernel
theorem dX11_isOfKind_1 : decode cX11_isOfKind 1 = .ok (.tableswitch 66 0 5 #[39, 41, 46, 51, 56, 61], 39) := by decide +kernel
theorem dX11_isOfKind_40 : decode cX11_isOfKind 40 = .ok (.iconst 1, 1) := by decide +kernel
theorem dX11_isOfKind_41 : decode cX11_isOfKind 41 = .ok (.ireturn, 1) := by decide +kernel
theorem dX11_isOfKind_42 : decode cX11_isOfKind 42 = .ok (.aload_n 0, 1) := by decide +kernel
theorem dX11_isOfKind_43 : decode cX11_isOfKind 43 = .ok (.instanceof 70, 3) := by decide +kernel
theorem dX11_isOfKind_46 : decode cX11_isOfKind 46 = .ok (.ireturn, 1) := by decide +kernel
theorem dX11_isOfKind_47 : decode cX11_isOfKind 47 = .ok (.aload_n 0, 1) := by decide +kernel
theorem dX11_isOfKind_48 : decode cX11_isOfKind 48 = .ok (.instanceof 73, 3) := by decide +kernel
theorem dX11_isOfKind_51 : decode cX11_isOfKind 51 = .ok (.ireturn, 1) := by decide +kernel
theorem dX11_isOfKind_52 : decode cX11_isOfKind 52 = .ok (.aload_n 0, 1) := by decide +kernel
theorem dX11_isOfKind_53 : decode cX11_isOfKind 53 = .ok (.instanceof 76, 3) := by decide +kernel
theorem dX11_isOfKind_56 : decode cX11_isOfKind 56 = .ok (.ireturn, 1) := by decide +kernel
theorem dX11_isOfKind_57 : decode cX11_isOfKind 57 = .ok (.aload_n 0, 1) := by decide +kernel
theorem dX11_isOfKind_58 : decode cX11_isOfKind 58 = .ok (.instanceof 79, 3) := by decide +kernel
theorem dX11_isOfKind_61 : decode cX11_isOfKind 61 = .ok (.ireturn, 1) := by decide +kernel
theorem dX11_isOfKind_62 : decode cX11_isOfKind 62 = .ok (.aload_n 0, 1) := by decide +kernel
theorem dX11_isOfKind_63 : decode cX11_isOfKind 63 = .ok (.instanceof 82, 3) := by decide +kernel
theorem dX11_isOfKind_66 : decode cX11_isOfKind 66 = .ok (.ireturn, 1) := by decide +kernel
theorem dX11_isOfKind_67 : decode cX11_isOfKind 67 = .ok (.iconst 0, 1) := by decide +kernel
theorem dX11_isOfKind_68 : decode cX11_isOfKind 68 = .ok (.ireturn, 1) := by decide +kernel
theorem dX11_gainNow_0 : decode cX11_gainNow 0 = .ok (.aload_n 0, 1) := by decide +kernel
theorem dX11_gainNow_1 : decode cX11_gainNow 1 = .ok (.getfield 88, 3) := by decide +kernel
theorem dX11_gainNow_4 : decode cX11_gainNow 4 = .ok (.aload_n 0, 1) := by decide +kernel
theorem dX11_gainNow_5 : decode cX11_gainNow 5 = .ok (.getfield 88, 3) := by decide +kernel
theorem dX11_gainNow_8 : decode cX11_gainNow 8 = .ok (.getfield 196, 3) := by decide +kernel
theorem dX11_gainNow_11 : decode cX11_gainNow 11 = .ok (.aload_n 0, 1) := by decide +kernel
theorem dX11_gainNow_12 : decode cX11_gainNow 12 = .ok (.getfield 55, 3) := by decide +kernel
theorem dX11_gainNow_15 : decode cX11_gainNow 15 = .ok (.invokevirtual 199, 3) := by decide +kernel
theorem dX11_gainNow_18 : decode cX11_gainNow 18 = .ok (.aload_n 0, 1) := by decide +kernel
theorem dX11_gainNow_19 : decode cX11_gainNow 19 = .ok (.getfield 55, 3) := by decide +kernel
theorem dX11_gainNow_22 : decode cX11_gainNow 22 = .ok (.iload_n 1, 1) := by decide +kernel
theorem dX11_gainNow_23 : decode cX11_gainNow 23 = .ok (.iaload, 1) := by decide +kernel
theorem dX11_gainNow_24 : decode cX11_gainNow 24 = .ok (.aload_n 0, 1) := by decide +kernel
theorem dX11_gainNow_25 : decode cX11_gainNow 25 = .ok (.getfield 88, 3) := by decide +kernel
theorem dX11_gainNow_28 : decode cX11_gainNow 28 = .ok (.getfield 184, 3) := by decide +kernel
theorem dX11_gainNow_31 : decode cX11_gainNow 31 = .ok (.iload_n 1, 1) := by decide +kernel
theorem dX11_gainNow_32 : decode cX11_gainNow 32 = .ok (.aaload, 1) := by decide +kernel
theorem dX11_gainNow_33 : decode cX11_gainNow 33 = .ok (.getfield 243, 3) := by decide +kernel
theorem dX11_gainNow_36 : decode cX11_gainNow 36 = .ok (.iconst 4, 1) := by decide +kernel
theorem dX11_gainNow_37 : decode cX11_gainNow 37 = .ok (.idiv, 1) := by decide +kernel
theorem dX11_gainNow_38 : decode cX11_gainNow 38 = .ok (.isub, 1) := by decide +kernel
theorem dX11_gainNow_39 : decode cX11_gainNow 39 = .ok (.ireturn, 1) := by decide +kernel
theorem dX11_gainBySpeech_0 : decode cX11_gainBySpeech 0 = .ok (.iload_n 2, 1) := by decide +kernel
theorem dX11_gainBySpeech_1 : decode cX11_gainBySpeech 1 = .ok (.bipush 100, 2) := by decide +kernel
theorem dX11_gainBySpeech_3 : decode cX11_gainBySpeech 3 = .ok (.irem, 1) := by decide +kernel
theorem dX11_gainBySpeech_4 : decode cX11_gainBySpeech 4 = .ok (.istore_n 3, 1) := by decide +kernel
theorem dX11_gainBySpeech_5 : decode cX11_gainBySpeech 5 = .ok (.aload_n 0, 1) := by decide +kernel
theorem dX11_gainBySpeech_6 : decode cX11_gainBySpeech 6 = .ok (.getfield 92, 3) := by decide +kernel
theorem dX11_gainBySpeech_9 : decode cX11_gainBySpeech 9 = .ok (.aload_n 0, 1) := by decide +kernel
theorem dX11_gainBySpeech_10 : decode cX11_gainBySpeech 10 = .ok (.getfield 88, 3) := by decide +kernel
theorem dX11_gainBySpeech_13 : decode cX11_gainBySpeech 13 = .ok (.invokevirtual 159, 3) := by decide +kernel
theorem dX11_gainBySpeech_16 : decode cX11_gainBySpeech 16 = .ok (.aload_n 0, 1) := by decide +kernel
theorem dX11_gainBySpeech_17 : decode cX11_gainBySpeech 17 = .ok (.getfield 92, 3) := by decide +kernel
theorem dX11_gainBySpeech_20 : decode cX11_gainBySpeech 20 = .ok (.getfield 184, 3) := by decide +kernel
theorem dX11_gainBySpeech_23 : decode cX11_gainBySpeech 23 = .ok (.iload_n 1, 1) := by decide +kernel
theorem dX11_gainBySpeech_24 : decode cX11_gainBySpeech 24 = .ok (.aaload, 1) := by decide +kernel
theorem dX11_gainBySpeech_25 : decode cX11_gainBySpeech 25 = .ok (.iload_n 2, 1) := by decide +kernel
theorem dX11_gainBySpeech_26 : decode cX11_gainBySpeech 26 = .ok (.bipush 100, 2) := by decide +kernel
theorem dX11_gainBySpeech_28 : decode cX11_gainBySpeech 28 = .ok (.idiv, 1) := by decide +kernel
theorem dX11_gainBySpeech_29 : decode cX11_gainBySpeech 29 = .ok (.iload_n 3, 1) := by decide +kernel
theorem dX11_gainBySpeech_30 : decode cX11_gainBySpeech 30 = .ok (.invokevirtual 188, 3) := by decide +kernel
theorem dX11_gainBySpeech_33 : decode cX11_gainBySpeech 33 = .ok (.aload_n 0, 1) := by decide +kernel
theorem dX11_gainBySpeech_34 : decode cX11_gainBySpeech 34 = .ok (.getfield 92, 3) := by decide +kernel
theorem dX11_gainBySpeech_37 : decode cX11_gainBySpeech 37 = .ok (.aload_n 0, 1) := by decide +kernel
theorem dX11_gainBySpeech_38 : decode cX11_gainBySpeech 38 = .ok (.getfield 92, 3) := by decide +kernel
theorem dX11_gainBySpeech_41 : decode cX11_gainBySpeech 41 = .ok (.getfield 196, 3) := by decide +kernel
theorem dX11_gainBySpeech_44 : decode cX11_gainBySpeech 44 = .ok (.aload_n 0, 1) := by decide +kernel
theorem dX11_gainBySpeech_45 : decode cX11_gainBySpeech 45 = .ok (.getfield 55, 3) := by decide +kernel
theorem dX11_gainBySpeech_48 : decode cX11_gainBySpeech 48 = .ok (.invokevirtual 199, 3) := by decide +kernel
theorem dX11_gainBySpeech_51 : decode cX11_gainBySpeech 51 = .ok (.aload_n 0, 1) := by decide +kernel
theorem dX11_gainBySpeech_52 : decode cX11_gainBySpeech 52 = .ok (.getfield 55, 3) := by decide +kernel
theorem dX11_gainBySpeech_55 : decode cX11_gainBySpeech 55 = .ok (.iload_n 1, 1) := by decide +kernel
theorem dX11_gainBySpeech_56 : decode cX11_gainBySpeech 56 = .ok (.iaload, 1) := by decide +kernel
theorem dX11_gainBySpeech_57 : decode cX11_gainBySpeech 57 = .ok (.iload_n 3, 1) := by decide +kernel
theorem dX11_gainBySpeech_58 : decode cX11_gainBySpeech 58 = .ok (.iconst 4, 1) := by decide +kernel
theorem dX11_gainBySpeech_59 : decode cX11_gainBySpeech 59 = .ok (.idiv, 1) := by decide +kernel
theorem dX11_gainBySpeech_60 : decode cX11_gainBySpeech 60 = .ok (.isub, 1) := by decide +kernel
theorem dX11_gainBySpeech_61 : decode cX11_gainBySpeech 61 = .ok (.ireturn, 1) := by decide +kernel
theorem dX11_bestSpeech_0 : decode cX11_bestSpeech 0 = .ok (.aload_n 0, 1) := by decide +kernel
theorem dX11_bestSpeech_1 : decode cX11_bestSpeech 1 = .ok (.getfield 88, 3) := by decide +kernel
theorem dX11_bestSpeech_4 : decode cX11_bestSpeech 4 = .ok (.getfield 196, 3) := by decide +kernel
theorem dX11_bestSpeech_7 : decode cX11_bestSpeech 7 = .ok (.iconst 1, 1) := by decide +kernel
theorem dX11_bestSpeech_8 : decode cX11_bestSpeech 8 = .ok (.if_icmp .ne 8, 3) := by decide +kernel
theorem dX11_bestSpeech_11 : decode cX11_bestSpeech 11 = .ok (.bipush 40, 2) := by decide +kernel
theorem dX11_bestSpeech_13 : decode cX11_bestSpeech 13 = .ok (.goto 4, 3) := by decide +kernel
theorem dX11_bestSpeech_16 : decode cX11_bestSpeech 16 = .ok (.iconst 0, 1) := by decide +kernel
theorem dX11_bestSpeech_17 : decode cX11_bestSpeech 17 = .ok (.istore_n 2, 1) := by decide +kernel
theorem dX11_bestSpeech_18 : decode cX11_bestSpeech 18 = .ok (.iconst (-1), 1) := by decide +kernel
theorem dX11_bestSpeech_19 : decode cX11_bestSpeech 19 = .ok (.istore_n 3, 1) := by decide +kernel
theorem dX11_bestSpeech_20 : decode cX11_bestSpeech 20 = .ok (.iconst 0, 1) := by decide +kernel
theorem dX11_bestSpeech_21 : decode cX11_bestSpeech 21 = .ok (.istore 4, 2) := by decide +kernel
theorem dX11_bestSpeech_23 : decode cX11_bestSpeech 23 = .ok (.aload_n 0, 1) := by decide +kernel
theorem dX11_bestSpeech_24 : decode cX11_bestSpeech 24 = .ok (.getfield 92, 3) := by decide +kernel
theorem dX11_bestSpeech_27 : decode cX11_bestSpeech 27 = .ok (.aload_n 0, 1) := by decide +kernel
theorem dX11_bestSpeech_28 : decode cX11_bestSpeech 28 = .ok (.getfield 88, 3) := by decide +kernel
theorem dX11_bestSpeech_31 : decode cX11_bestSpeech 31 = .ok (.invokevirtual 159, 3) := by decide +kernel
theorem dX11_bestSpeech_34 : decode cX11_bestSpeech 34 = .ok (.iconst 0, 1) := by decide +kernel
theorem dX11_bestSpeech_35 : decode cX11_bestSpeech 35 = .ok (.istore 5, 2) := by decide +kernel
theorem dX11_bestSpeech_37 : decode cX11_bestSpeech 37 = .ok (.iload 5, 2) := by decide +kernel
theorem dX11_bestSpeech_39 : decode cX11_bestSpeech 39 = .ok (.bipush 18, 2) := by decide +kernel
theorem dX11_bestSpeech_41 : decode cX11_bestSpeech 41 = .ok (.if_icmp .gt 123, 3) := by decide +kernel
theorem dX11_bestSpeech_44 : decode cX11_bestSpeech 44 = .ok (.aload_n 0, 1) := by decide +kernel
theorem dX11_bestSpeech_45 : decode cX11_bestSpeech 45 = .ok (.getfield 92, 3) := by decide +kernel
theorem dX11_bestSpeech_48 : decode cX11_bestSpeech 48 = .ok (.getfield 184, 3) := by decide +kernel
theorem dX11_bestSpeech_51 : decode cX11_bestSpeech 51 = .ok (.iload_n 1, 1) := by decide +kernel
theorem dX11_bestSpeech_52 : decode cX11_bestSpeech 52 = .ok (.aaload, 1) := by decide +kernel
theorem dX11_bestSpeech_53 : decode cX11_bestSpeech 53 = .ok (.iload 5, 2) := by decide +kernel
theorem dX11_bestSpeech_55 : decode cX11_bestSpeech 55 = .ok (.iconst 0, 1) := by decide +kernel
theorem dX11_bestSpeech_56 : decode cX11_bestSpeech 56 = .ok (.invokevirtual 188, 3) := by decide +kernel
theorem dX11_bestSpeech_59 : decode cX11_bestSpeech 59 = .ok (.aload_n 0, 1) := by decide +kernel
theorem dX11_bestSpeech_60 : decode cX11_bestSpeech 60 = .ok (.getfield 92, 3) := by decide +kernel
theorem dX11_bestSpeech_63 : decode cX11_bestSpeech 63 = .ok (.aload_n 0, 1) := by decide +kernel
theorem dX11_bestSpeech_64 : decode cX11_bestSpeech 64 = .ok (.getfield 92, 3) := by decide +kernel
theorem dX11_bestSpeech_67 : decode cX11_bestSpeech 67 = .ok (.getfield 196, 3) := by decide +kernel
theorem dX11_bestSpeech_70 : decode cX11_bestSpeech 70 = .ok (.aload_n 0, 1) := by decide +kernel
theorem dX11_bestSpeech_71 : decode cX11_bestSpeech 71 = .ok (.getfield 51, 3) := by decide +kernel
theorem dX11_bestSpeech_74 : decode cX11_bestSpeech 74 = .ok (.invokevirtual 337, 3) := by decide +kernel
theorem dX11_bestSpeech_77 : decode cX11_bestSpeech 77 = .ok (.aload_n 0, 1) := by decide +kernel
theorem dX11_bestSpeech_78 : decode cX11_bestSpeech 78 = .ok (.getfield 51, 3) := by decide +kernel
theorem dX11_bestSpeech_81 : decode cX11_bestSpeech 81 = .ok (.iload_n 1, 1) := by decide +kernel
theorem dX11_bestSpeech_82 : decode cX11_bestSpeech 82 = .ok (.iaload, 1) := by decide +kernel
theorem dX11_bestSpeech_83 : decode cX11_bestSpeech 83 = .ok (.istore 6, 2) := by decide +kernel
theorem dX11_bestSpeech_85 : decode cX11_bestSpeech 85 = .ok (.iconst 0, 1) := by decide +kernel
theorem dX11_bestSpeech_86 : decode cX11_bestSpeech 86 = .ok (.istore 7, 2) := by decide +kernel
theorem dX11_bestSpeech_88 : decode cX11_bestSpeech 88 = .ok (.iload 7, 2) := by decide +kernel
theorem dX11_bestSpeech_90 : decode cX11_bestSpeech 90 = .ok (.iload_n 2, 1) := by decide +kernel
theorem dX11_bestSpeech_91 : decode cX11_bestSpeech 91 = .ok (.if_icmp .gt 67, 3) := by decide +kernel
theorem dX11_bestSpeech_94 : decode cX11_bestSpeech 94 = .ok (.aload_n 0, 1) := by decide +kernel
theorem dX11_bestSpeech_95 : decode cX11_bestSpeech 95 = .ok (.getfield 51, 3) := by decide +kernel
theorem dX11_bestSpeech_98 : decode cX11_bestSpeech 98 = .ok (.iload_n 1, 1) := by decide +kernel
theorem dX11_bestSpeech_99 : decode cX11_bestSpeech 99 = .ok (.iload 6, 2) := by decide +kernel
theorem dX11_bestSpeech_101 : decode cX11_bestSpeech 101 = .ok (.iload 7, 2) := by decide +kernel
theorem dX11_bestSpeech_103 : decode cX11_bestSpeech 103 = .ok (.iadd, 1) := by decide +kernel
theorem dX11_bestSpeech_104 : decode cX11_bestSpeech 104 = .ok (.iastore, 1) := by decide +kernel
theorem dX11_bestSpeech_105 : decode cX11_bestSpeech 105 = .ok (.aload_n 0, 1) := by decide +kernel
theorem dX11_bestSpeech_106 : decode cX11_bestSpeech 106 = .ok (.getfield 92, 3) := by decide +kernel
theorem dX11_bestSpeech_109 : decode cX11_bestSpeech 109 = .ok (.aload_n 0, 1) := by decide +kernel
theorem dX11_bestSpeech_110 : decode cX11_bestSpeech 110 = .ok (.getfield 51, 3) := by decide +kernel
theorem dX11_bestSpeech_113 : decode cX11_bestSpeech 113 = .ok (.aload_n 0, 1) := by decide +kernel
theorem dX11_bestSpeech_114 : decode cX11_bestSpeech 114 = .ok (.getfield 55, 3) := by decide +kernel
theorem dX11_bestSpeech_117 : decode cX11_bestSpeech 117 = .ok (.invokevirtual 340, 3) := by decide +kernel
theorem dX11_bestSpeech_120 : decode cX11_bestSpeech 120 = .ok (.aload_n 0, 1) := by decide +kernel
theorem dX11_bestSpeech_121 : decode cX11_bestSpeech 121 = .ok (.getfield 55, 3) := by decide +kernel
theorem dX11_bestSpeech_124 : decode cX11_bestSpeech 124 = .ok (.iload_n 1, 1) := by decide +kernel
theorem dX11_bestSpeech_125 : decode cX11_bestSpeech 125 = .ok (.iaload, 1) := by decide +kernel
theorem dX11_bestSpeech_126 : decode cX11_bestSpeech 126 = .ok (.iload 7, 2) := by decide +kernel
theorem dX11_bestSpeech_128 : decode cX11_bestSpeech 128 = .ok (.iconst 4, 1) := by decide +kernel
theorem dX11_bestSpeech_129 : decode cX11_bestSpeech 129 = .ok (.idiv, 1) := by decide +kernel
theorem dX11_bestSpeech_130 : decode cX11_bestSpeech 130 = .ok (.isub, 1) := by decide +kernel
theorem dX11_bestSpeech_131 : decode cX11_bestSpeech 131 = .ok (.istore 8, 2) := by decide +kernel
theorem dX11_bestSpeech_133 : decode cX11_bestSpeech 133 = .ok (.iload 8, 2) := by decide +kernel
theorem dX11_bestSpeech_135 : decode cX11_bestSpeech 135 = .ok (.iload_n 3, 1) := by decide +kernel
theorem dX11_bestSpeech_136 : decode cX11_bestSpeech 136 = .ok (.if_icmp .le 16, 3) := by decide +kernel
theorem dX11_bestSpeech_139 : decode cX11_bestSpeech 139 = .ok (.iload 8, 2) := by decide +kernel
theorem dX11_bestSpeech_141 : decode cX11_bestSpeech 141 = .ok (.istore_n 3, 1) := by decide +kernel
theorem dX11_bestSpeech_142 : decode cX11_bestSpeech 142 = .ok (.bipush 100, 2) := by decide +kernel
theorem dX11_bestSpeech_144 : decode cX11_bestSpeech 144 = .ok (.iload 5, 2) := by decide +kernel
theorem dX11_bestSpeech_146 : decode cX11_bestSpeech 146 = .ok (.imul, 1) := by decide +kernel
theorem dX11_bestSpeech_147 : decode cX11_bestSpeech 147 = .ok (.iload 7, 2) := by decide +kernel
theorem dX11_bestSpeech_149 : decode cX11_bestSpeech 149 = .ok (.iadd, 1) := by decide +kernel
theorem dX11_bestSpeech_150 : decode cX11_bestSpeech 150 = .ok (.istore 4, 2) := by decide +kernel
theorem dX11_bestSpeech_152 : decode cX11_bestSpeech 152 = .ok (.iinc 7 1, 3) := by decide +kernel
theorem dX11_bestSpeech_155 : decode cX11_bestSpeech 155 = .ok (.goto (-67), 3) := by decide +kernel
theorem dX11_bestSpeech_158 : decode cX11_bestSpeech 158 = .ok (.iinc 5 1, 3) := by decide +kernel
theorem dX11_bestSpeech_161 : decode cX11_bestSpeech 161 = .ok (.goto (-124), 3) := by decide +kernel
theorem dX11_bestSpeech_164 : decode cX11_bestSpeech 164 = .ok (.iload 4, 2) := by decide +kernel
theorem dX11_bestSpeech_166 : decode cX11_bestSpeech 166 = .ok (.ireturn, 1) := by decide +kernel
theorem dX11_truestHeir_0 : decode cX11_truestHeir 0 = .ok (.iconst 0, 1) := by decide +kernel
theorem dX11_truestHeir_1 : decode cX11_truestHeir 1 = .ok (.istore_n 1, 1) := by decide +kernel
theorem dX11_truestHeir_2 : decode cX11_truestHeir 2 = .ok (.iconst 1, 1) := by decide +kernel
theorem dX11_truestHeir_3 : decode cX11_truestHeir 3 = .ok (.istore_n 2, 1) := by decide +kernel
theorem dX11_truestHeir_4 : decode cX11_truestHeir 4 = .ok (.iload_n 2, 1) := by decide +kernel
theorem dX11_truestHeir_5 : decode cX11_truestHeir 5 = .ok (.aload_n 0, 1) := by decide +kernel
theorem dX11_truestHeir_6 : decode cX11_truestHeir 6 = .ok (.getfield 88, 3) := by decide +kernel
theorem dX11_truestHeir_9 : decode cX11_truestHeir 9 = .ok (.getfield 166, 3) := by decide +kernel
theorem dX11_truestHeir_12 : decode cX11_truestHeir 12 = .ok (.if_icmp .ge 38, 3) := by decide +kernel
theorem dX11_truestHeir_15 : decode cX11_truestHeir 15 = .ok (.aload_n 0, 1) := by decide +kernel
theorem dX11_truestHeir_16 : decode cX11_truestHeir 16 = .ok (.getfield 88, 3) := by decide +kernel
theorem dX11_truestHeir_19 : decode cX11_truestHeir 19 = .ok (.getfield 184, 3) := by decide +kernel
theorem dX11_truestHeir_22 : decode cX11_truestHeir 22 = .ok (.iload_n 2, 1) := by decide +kernel
theorem dX11_truestHeir_23 : decode cX11_truestHeir 23 = .ok (.aaload, 1) := by decide +kernel
theorem dX11_truestHeir_24 : decode cX11_truestHeir 24 = .ok (.getfield 231, 3) := by decide +kernel
theorem dX11_truestHeir_27 : decode cX11_truestHeir 27 = .ok (.aload_n 0, 1) := by decide +kernel
theorem dX11_truestHeir_28 : decode cX11_truestHeir 28 = .ok (.getfield 88, 3) := by decide +kernel
theorem dX11_truestHeir_31 : decode cX11_truestHeir 31 = .ok (.getfield 184, 3) := by decide +kernel
theorem dX11_truestHeir_34 : decode cX11_truestHeir 34 = .ok (.iload_n 1, 1) := by decide +kernel
theorem dX11_truestHeir_35 : decode cX11_truestHeir 35 = .ok (.aaload, 1) := by decide +kernel
theorem dX11_truestHeir_36 : decode cX11_truestHeir 36 = .ok (.getfield 231, 3) := by decide +kernel
theorem dX11_truestHeir_39 : decode cX11_truestHeir 39 = .ok (.if_icmp .le 5, 3) := by decide +kernel
theorem dX11_truestHeir_42 : decode cX11_truestHeir 42 = .ok (.iload_n 2, 1) := by decide +kernel
theorem dX11_truestHeir_43 : decode cX11_truestHeir 43 = .ok (.istore_n 1, 1) := by decide +kernel
theorem dX11_truestHeir_44 : decode cX11_truestHeir 44 = .ok (.iinc 2 1, 3) := by decide +kernel
theorem dX11_truestHeir_47 : decode cX11_truestHeir 47 = .ok (.goto (-43), 3) := by decide +kernel
theorem dX11_truestHeir_50 : decode cX11_truestHeir 50 = .ok (.iload_n 1, 1) := by decide +kernel
theorem dX11_truestHeir_51 : decode cX11_truestHeir 51 = .ok (.ireturn, 1) := by decide +kernel
theorem dX11_truestGetsMost_0 : decode cX11_truestGetsMost 0 = .ok (.aload_n 0, 1) := by decide +kernel
theorem dX11_truestGetsMost_1 : decode cX11_truestGetsMost 1 = .ok (.getfield 92, 3) := by decide +kernel
theorem dX11_truestGetsMost_4 : decode cX11_truestGetsMost 4 = .ok (.aload_n 0, 1) := by decide +kernel
theorem dX11_truestGetsMost_5 : decode cX11_truestGetsMost 5 = .ok (.getfield 88, 3) := by decide +kernel
theorem dX11_truestGetsMost_8 : decode cX11_truestGetsMost 8 = .ok (.invokevirtual 159, 3) := by decide +kernel
theorem dX11_truestGetsMost_11 : decode cX11_truestGetsMost 11 = .ok (.iconst 0, 1) := by decide +kernel
theorem dX11_truestGetsMost_12 : decode cX11_truestGetsMost 12 = .ok (.istore_n 3, 1) := by decide +kernel
theorem dX11_truestGetsMost_13 : decode cX11_truestGetsMost 13 = .ok (.iload_n 3, 1) := by decide +kernel
theorem dX11_truestGetsMost_14 : decode cX11_truestGetsMost 14 = .ok (.iconst 1, 1) := by decide +kernel
theorem dX11_truestGetsMost_15 : decode cX11_truestGetsMost 15 = .ok (.iconst 2, 1) := by decide +kernel
theorem dX11_truestGetsMost_16 : decode cX11_truestGetsMost 16 = .ok (.aload_n 0, 1) := by decide +kernel
theorem dX11_truestGetsMost_17 : decode cX11_truestGetsMost 17 = .ok (.getfield 88, 3) := by decide +kernel
theorem dX11_truestGetsMost_20 : decode cX11_truestGetsMost 20 = .ok (.getfield 166, 3) := by decide +kernel
theorem dX11_truestGetsMost_23 : decode cX11_truestGetsMost 23 = .ok (.imul, 1) := by decide +kernel
theorem dX11_truestGetsMost_24 : decode cX11_truestGetsMost 24 = .ok (.ishl, 1) := by decide +kernel
theorem dX11_truestGetsMost_25 : decode cX11_truestGetsMost 25 = .ok (.if_icmp .ge 109, 3) := by decide +kernel
theorem dX11_truestGetsMost_28 : decode cX11_truestGetsMost 28 = .ok (.iconst 0, 1) := by decide +kernel
theorem dX11_truestGetsMost_29 : decode cX11_truestGetsMost 29 = .ok (.istore 4, 2) := by decide +kernel
theorem dX11_truestGetsMost_31 : decode cX11_truestGetsMost 31 = .ok (.iload 4, 2) := by decide +kernel
theorem dX11_truestGetsMost_33 : decode cX11_truestGetsMost 33 = .ok (.aload_n 0, 1) := by decide +kernel
theorem dX11_truestGetsMost_34 : decode cX11_truestGetsMost 34 = .ok (.getfield 88, 3) := by decide +kernel
theorem dX11_truestGetsMost_37 : decode cX11_truestGetsMost 37 = .ok (.getfield 166, 3) := by decide +kernel
theorem dX11_truestGetsMost_40 : decode cX11_truestGetsMost 40 = .ok (.if_icmp .ge 46, 3) := by decide +kernel
theorem dX11_truestGetsMost_43 : decode cX11_truestGetsMost 43 = .ok (.aload_n 0, 1) := by decide +kernel
theorem dX11_truestGetsMost_44 : decode cX11_truestGetsMost 44 = .ok (.getfield 92, 3) := by decide +kernel
theorem dX11_truestGetsMost_47 : decode cX11_truestGetsMost 47 = .ok (.getfield 184, 3) := by decide +kernel
theorem dX11_truestGetsMost_50 : decode cX11_truestGetsMost 50 = .ok (.iload 4, 2) := by decide +kernel
theorem dX11_truestGetsMost_52 : decode cX11_truestGetsMost 52 = .ok (.aaload, 1) := by decide +kernel
theorem dX11_truestGetsMost_53 : decode cX11_truestGetsMost 53 = .ok (.bipush 6, 2) := by decide +kernel
theorem dX11_truestGetsMost_55 : decode cX11_truestGetsMost 55 = .ok (.iload_n 3, 1) := by decide +kernel
theorem dX11_truestGetsMost_56 : decode cX11_truestGetsMost 56 = .ok (.iconst 2, 1) := by decide +kernel
theorem dX11_truestGetsMost_57 : decode cX11_truestGetsMost 57 = .ok (.iload 4, 2) := by decide +kernel
theorem dX11_truestGetsMost_59 : decode cX11_truestGetsMost 59 = .ok (.imul, 1) := by decide +kernel
theorem dX11_truestGetsMost_60 : decode cX11_truestGetsMost 60 = .ok (.ishr, 1) := by decide +kernel
theorem dX11_truestGetsMost_61 : decode cX11_truestGetsMost 61 = .ok (.iconst 3, 1) := by decide +kernel
theorem dX11_truestGetsMost_62 : decode cX11_truestGetsMost 62 = .ok (.iand, 1) := by decide +kernel
theorem dX11_truestGetsMost_63 : decode cX11_truestGetsMost 63 = .ok (.imul, 1) := by decide +kernel
theorem dX11_truestGetsMost_64 : decode cX11_truestGetsMost 64 = .ok (.aload_n 0, 1) := by decide +kernel
theorem dX11_truestGetsMost_65 : decode cX11_truestGetsMost 65 = .ok (.getfield 88, 3) := by decide +kernel
theorem dX11_truestGetsMost_68 : decode cX11_truestGetsMost 68 = .ok (.getfield 184, 3) := by decide +kernel
theorem dX11_truestGetsMost_71 : decode cX11_truestGetsMost 71 = .ok (.iload 4, 2) := by decide +kernel
theorem dX11_truestGetsMost_73 : decode cX11_truestGetsMost 73 = .ok (.aaload, 1) := by decide +kernel
theorem dX11_truestGetsMost_74 : decode cX11_truestGetsMost 74 = .ok (.getfield 243, 3) := by decide +kernel
theorem dX11_truestGetsMost_77 : decode cX11_truestGetsMost 77 = .ok (.invokevirtual 188, 3) := by decide +kernel
theorem dX11_truestGetsMost_80 : decode cX11_truestGetsMost 80 = .ok (.iinc 4 1, 3) := by decide +kernel
theorem dX11_truestGetsMost_83 : decode cX11_truestGetsMost 83 = .ok (.goto (-52), 3) := by decide +kernel
theorem dX11_truestGetsMost_86 : decode cX11_truestGetsMost 86 = .ok (.aload_n 0, 1) := by decide +kernel
theorem dX11_truestGetsMost_87 : decode cX11_truestGetsMost 87 = .ok (.getfield 92, 3) := by decide +kernel
theorem dX11_truestGetsMost_90 : decode cX11_truestGetsMost 90 = .ok (.iload_n 2, 1) := by decide +kernel
theorem dX11_truestGetsMost_91 : decode cX11_truestGetsMost 91 = .ok (.aload_n 0, 1) := by decide +kernel
theorem dX11_truestGetsMost_92 : decode cX11_truestGetsMost 92 = .ok (.getfield 55, 3) := by decide +kernel
theorem dX11_truestGetsMost_95 : decode cX11_truestGetsMost 95 = .ok (.invokevirtual 199, 3) := by decide +kernel
theorem dX11_truestGetsMost_98 : decode cX11_truestGetsMost 98 = .ok (.aload_n 0, 1) := by decide +kernel
theorem dX11_truestGetsMost_99 : decode cX11_truestGetsMost 99 = .ok (.getfield 55, 3) := by decide +kernel
theorem dX11_truestGetsMost_102 : decode cX11_truestGetsMost 102 = .ok (.aload_n 0, 1) := by decide +kernel
theorem dX11_truestGetsMost_103 : decode cX11_truestGetsMost 103 = .ok (.getfield 55, 3) := by decide +kernel
theorem dX11_truestGetsMost_106 : decode cX11_truestGetsMost 106 = .ok (.aload_n 0, 1) := by decide +kernel
theorem dX11_truestGetsMost_107 : decode cX11_truestGetsMost 107 = .ok (.getfield 88, 3) := by decide +kernel
theorem dX11_truestGetsMost_110 : decode cX11_truestGetsMost 110 = .ok (.getfield 166, 3) := by decide +kernel
theorem dX11_truestGetsMost_113 : decode cX11_truestGetsMost 113 = .ok (.invokestatic 206, 3) := by decide +kernel
theorem dX11_truestGetsMost_116 : decode cX11_truestGetsMost 116 = .ok (.iaload, 1) := by decide +kernel
theorem dX11_truestGetsMost_117 : decode cX11_truestGetsMost 117 = .ok (.aload_n 0, 1) := by decide +kernel
theorem dX11_truestGetsMost_118 : decode cX11_truestGetsMost 118 = .ok (.getfield 55, 3) := by decide +kernel
theorem dX11_truestGetsMost_121 : decode cX11_truestGetsMost 121 = .ok (.iload_n 1, 1) := by decide +kernel
theorem dX11_truestGetsMost_122 : decode cX11_truestGetsMost 122 = .ok (.iaload, 1) := by decide +kernel
theorem dX11_truestGetsMost_123 : decode cX11_truestGetsMost 123 = .ok (.if_icmp .le 5, 3) := by decide +kernel
theorem dX11_truestGetsMost_126 : decode cX11_truestGetsMost 126 = .ok (.iconst 0, 1) := by decide +kernel
theorem dX11_truestGetsMost_127 : decode cX11_truestGetsMost 127 = .ok (.ireturn, 1) := by decide +kernel
theorem dX11_truestGetsMost_128 : decode cX11_truestGetsMost 128 = .ok (.iinc 3 1, 3) := by decide +kernel
theorem dX11_truestGetsMost_131 : decode cX11_truestGetsMost 131 = .ok (.goto (-118), 3) := by decide +kernel
theorem dX11_truestGetsMost_134 : decode cX11_truestGetsMost 134 = .ok (.iconst 1, 1) := by decide +kernel
theorem dX11_truestGetsMost_135 : decode cX11_truestGetsMost 135 = .ok (.ireturn, 1) := by decide +kernel
theorem dX11_findBestHosts_0 : decode cX11_findBestHosts 0 = .ok (.iconst (-1), 1) := by decide +kernel
theorem dX11_findBestHosts_1 : decode cX11_findBestHosts 1 = .ok (.istore_n 2, 1) := by decide +kernel
theorem dX11_findBestHosts_2 : decode cX11_findBestHosts 2 = .ok (.iconst 1, 1) := by decide +kernel
theorem dX11_findBestHosts_3 : decode cX11_findBestHosts 3 = .ok (.istore_n 3, 1) := by decide +kernel
theorem dX11_findBestHosts_4 : decode cX11_findBestHosts 4 = .ok (.iconst 0, 1) := by decide +kernel
theorem dX11_findBestHosts_5 : decode cX11_findBestHosts 5 = .ok (.istore 4, 2) := by decide +kernel
theorem dX11_findBestHosts_7 : decode cX11_findBestHosts 7 = .ok (.iload 4, 2) := by decide +kernel
theorem dX11_findBestHosts_9 : decode cX11_findBestHosts 9 = .ok (.aload_n 0, 1) := by decide +kernel
theorem dX11_findBestHosts_10 : decode cX11_findBestHosts 10 = .ok (.getfield 88, 3) := by decide +kernel
theorem dX11_findBestHosts_13 : decode cX11_findBestHosts 13 = .ok (.getfield 166, 3) := by decide +kernel
theorem dX11_findBestHosts_16 : decode cX11_findBestHosts 16 = .ok (.if_icmp .ge 19, 3) := by decide +kernel
theorem dX11_findBestHosts_19 : decode cX11_findBestHosts 19 = .ok (.iload_n 3, 1) := by decide +kernel
theorem dX11_findBestHosts_20 : decode cX11_findBestHosts 20 = .ok (.aload_n 0, 1) := by decide +kernel
theorem dX11_findBestHosts_21 : decode cX11_findBestHosts 21 = .ok (.getfield 88, 3) := by decide +kernel
theorem dX11_findBestHosts_24 : decode cX11_findBestHosts 24 = .ok (.getfield 166, 3) := by decide +kernel
theorem dX11_findBestHosts_27 : decode cX11_findBestHosts 27 = .ok (.imul, 1) := by decide +kernel
theorem dX11_findBestHosts_28 : decode cX11_findBestHosts 28 = .ok (.istore_n 3, 1) := by decide +kernel
theorem dX11_findBestHosts_29 : decode cX11_findBestHosts 29 = .ok (.iinc 4 1, 3) := by decide +kernel
theorem dX11_findBestHosts_32 : decode cX11_findBestHosts 32 = .ok (.goto (-25), 3) := by decide +kernel
theorem dX11_findBestHosts_35 : decode cX11_findBestHosts 35 = .ok (.iconst 0, 1) := by decide +kernel
theorem dX11_findBestHosts_36 : decode cX11_findBestHosts 36 = .ok (.istore 4, 2) := by decide +kernel
theorem dX11_findBestHosts_38 : decode cX11_findBestHosts 38 = .ok (.iload 4, 2) := by decide +kernel
theorem dX11_findBestHosts_40 : decode cX11_findBestHosts 40 = .ok (.iload_n 3, 1) := by decide +kernel
theorem dX11_findBestHosts_41 : decode cX11_findBestHosts 41 = .ok (.if_icmp .ge 48, 3) := by decide +kernel
theorem dX11_findBestHosts_44 : decode cX11_findBestHosts 44 = .ok (.aload_n 0, 1) := by decide +kernel
theorem dX11_findBestHosts_45 : decode cX11_findBestHosts 45 = .ok (.iload 4, 2) := by decide +kernel
theorem dX11_findBestHosts_47 : decode cX11_findBestHosts 47 = .ok (.invokevirtual 344, 3) := by decide +kernel
theorem dX11_findBestHosts_50 : decode cX11_findBestHosts 50 = .ok (.ifCond .eq 33, 3) := by decide +kernel
theorem dX11_findBestHosts_53 : decode cX11_findBestHosts 53 = .ok (.aload_n 0, 1) := by decide +kernel
theorem dX11_findBestHosts_54 : decode cX11_findBestHosts 54 = .ok (.iload_n 1, 1) := by decide +kernel
theorem dX11_findBestHosts_55 : decode cX11_findBestHosts 55 = .ok (.invokevirtual 347, 3) := by decide +kernel
theorem dX11_findBestHosts_58 : decode cX11_findBestHosts 58 = .ok (.istore 5, 2) := by decide +kernel
theorem dX11_findBestHosts_60 : decode cX11_findBestHosts 60 = .ok (.iload 5, 2) := by decide +kernel
theorem dX11_findBestHosts_62 : decode cX11_findBestHosts 62 = .ok (.iload_n 2, 1) := by decide +kernel
theorem dX11_findBestHosts_63 : decode cX11_findBestHosts 63 = .ok (.if_icmp .le 20, 3) := by decide +kernel
theorem dX11_findBestHosts_66 : decode cX11_findBestHosts 66 = .ok (.iload 5, 2) := by decide +kernel
theorem dX11_findBestHosts_68 : decode cX11_findBestHosts 68 = .ok (.istore_n 2, 1) := by decide +kernel
theorem dX11_findBestHosts_69 : decode cX11_findBestHosts 69 = .ok (.aload_n 0, 1) := by decide +kernel
theorem dX11_findBestHosts_70 : decode cX11_findBestHosts 70 = .ok (.getfield 58, 3) := by decide +kernel
theorem dX11_findBestHosts_73 : decode cX11_findBestHosts 73 = .ok (.iconst 0, 1) := by decide +kernel
theorem dX11_findBestHosts_74 : decode cX11_findBestHosts 74 = .ok (.aload_n 0, 1) := by decide +kernel
theorem dX11_findBestHosts_75 : decode cX11_findBestHosts 75 = .ok (.getfield 61, 3) := by decide +kernel
theorem dX11_findBestHosts_78 : decode cX11_findBestHosts 78 = .ok (.iconst 0, 1) := by decide +kernel
theorem dX11_findBestHosts_79 : decode cX11_findBestHosts 79 = .ok (.iconst 4, 1) := by decide +kernel
theorem dX11_findBestHosts_80 : decode cX11_findBestHosts 80 = .ok (.invokestatic 129, 3) := by decide +kernel
theorem dX11_findBestHosts_83 : decode cX11_findBestHosts 83 = .ok (.iinc 4 1, 3) := by decide +kernel
theorem dX11_findBestHosts_86 : decode cX11_findBestHosts 86 = .ok (.goto (-48), 3) := by decide +kernel
theorem dX11_findBestHosts_89 : decode cX11_findBestHosts 89 = .ok (.iload_n 2, 1) := by decide +kernel
theorem dX11_findBestHosts_90 : decode cX11_findBestHosts 90 = .ok (.ireturn, 1) := by decide +kernel
theorem dX11_isOrder_0 : decode cX11_isOrder 0 = .ok (.iload_n 1, 1) := by decide +kernel
theorem dX11_isOrder_1 : decode cX11_isOrder 1 = .ok (.istore_n 2, 1) := by decide +kernel
theorem dX11_isOrder_2 : decode cX11_isOrder 2 = .ok (.iconst 0, 1) := by decide +kernel
theorem dX11_isOrder_3 : decode cX11_isOrder 3 = .ok (.istore_n 3, 1) := by decide +kernel
theorem dX11_isOrder_4 : decode cX11_isOrder 4 = .ok (.aload_n 0, 1) := by decide +kernel
theorem dX11_isOrder_5 : decode cX11_isOrder 5 = .ok (.getfield 88, 3) := by decide +kernel
theorem dX11_isOrder_8 : decode cX11_isOrder 8 = .ok (.getfield 166, 3) := by decide +kernel
theorem dX11_isOrder_11 : decode cX11_isOrder 11 = .ok (.iconst 1, 1) := by decide +kernel
theorem dX11_isOrder_12 : decode cX11_isOrder 12 = .ok (.isub, 1) := by decide +kernel
theorem dX11_isOrder_13 : decode cX11_isOrder 13 = .ok (.istore 4, 2) := by decide +kernel
theorem dX11_isOrder_15 : decode cX11_isOrder 15 = .ok (.iload 4, 2) := by decide +kernel
theorem dX11_isOrder_17 : decode cX11_isOrder 17 = .ok (.ifCond .lt 47, 3) := by decide +kernel
theorem dX11_isOrder_20 : decode cX11_isOrder 20 = .ok (.aload_n 0, 1) := by decide +kernel
theorem dX11_isOrder_21 : decode cX11_isOrder 21 = .ok (.getfield 58, 3) := by decide +kernel
theorem dX11_isOrder_24 : decode cX11_isOrder 24 = .ok (.iload 4, 2) := by decide +kernel
theorem dX11_isOrder_26 : decode cX11_isOrder 26 = .ok (.iload_n 2, 1) := by decide +kernel
theorem dX11_isOrder_27 : decode cX11_isOrder 27 = .ok (.aload_n 0, 1) := by decide +kernel
theorem dX11_isOrder_28 : decode cX11_isOrder 28 = .ok (.getfield 88, 3) := by decide +kernel
theorem dX11_isOrder_31 : decode cX11_isOrder 31 = .ok (.getfield 166, 3) := by decide +kernel
theorem dX11_isOrder_34 : decode cX11_isOrder 34 = .ok (.irem, 1) := by decide +kernel
theorem dX11_isOrder_35 : decode cX11_isOrder 35 = .ok (.iastore, 1) := by decide +kernel
theorem dX11_isOrder_36 : decode cX11_isOrder 36 = .ok (.iload_n 2, 1) := by decide +kernel
theorem dX11_isOrder_37 : decode cX11_isOrder 37 = .ok (.aload_n 0, 1) := by decide +kernel
theorem dX11_isOrder_38 : decode cX11_isOrder 38 = .ok (.getfield 88, 3) := by decide +kernel
theorem dX11_isOrder_41 : decode cX11_isOrder 41 = .ok (.getfield 166, 3) := by decide +kernel
theorem dX11_isOrder_44 : decode cX11_isOrder 44 = .ok (.idiv, 1) := by decide +kernel
theorem dX11_isOrder_45 : decode cX11_isOrder 45 = .ok (.istore_n 2, 1) := by decide +kernel
theorem dX11_isOrder_46 : decode cX11_isOrder 46 = .ok (.iload_n 3, 1) := by decide +kernel
theorem dX11_isOrder_47 : decode cX11_isOrder 47 = .ok (.iconst 1, 1) := by decide +kernel
theorem dX11_isOrder_48 : decode cX11_isOrder 48 = .ok (.aload_n 0, 1) := by decide +kernel
theorem dX11_isOrder_49 : decode cX11_isOrder 49 = .ok (.getfield 58, 3) := by decide +kernel
theorem dX11_isOrder_52 : decode cX11_isOrder 52 = .ok (.iload 4, 2) := by decide +kernel
theorem dX11_isOrder_54 : decode cX11_isOrder 54 = .ok (.iaload, 1) := by decide +kernel
theorem dX11_isOrder_55 : decode cX11_isOrder 55 = .ok (.ishl, 1) := by decide +kernel
theorem dX11_isOrder_56 : decode cX11_isOrder 56 = .ok (.ior, 1) := by decide +kernel
theorem dX11_isOrder_57 : decode cX11_isOrder 57 = .ok (.istore_n 3, 1) := by decide +kernel
theorem dX11_isOrder_58 : decode cX11_isOrder 58 = .ok (.iinc 4 (-1), 3) := by decide +kernel
theorem dX11_isOrder_61 : decode cX11_isOrder 61 = .ok (.goto (-46), 3) := by decide +kernel
theorem dX11_isOrder_64 : decode cX11_isOrder 64 = .ok (.iload_n 3, 1) := by decide +kernel
theorem dX11_isOrder_65 : decode cX11_isOrder 65 = .ok (.iconst 1, 1) := by decide +kernel
theorem dX11_isOrder_66 : decode cX11_isOrder 66 = .ok (.aload_n 0, 1) := by decide +kernel
theorem dX11_isOrder_67 : decode cX11_isOrder 67 = .ok (.getfield 88, 3) := by decide +kernel
theorem dX11_isOrder_70 : decode cX11_isOrder 70 = .ok (.getfield 166, 3) := by decide +kernel
theorem dX11_isOrder_73 : decode cX11_isOrder 73 = .ok (.ishl, 1) := by decide +kernel
theorem dX11_isOrder_74 : decode cX11_isOrder 74 = .ok (.iconst 1, 1) := by decide +kernel
theorem dX11_isOrder_75 : decode cX11_isOrder 75 = .ok (.isub, 1) := by decide +kernel
theorem dX11_isOrder_76 : decode cX11_isOrder 76 = .ok (.if_icmp .ne 7, 3) := by decide +kernel
theorem dX11_isOrder_79 : decode cX11_isOrder 79 = .ok (.iconst 1, 1) := by decide +kernel
theorem dX11_isOrder_80 : decode cX11_isOrder 80 = .ok (.goto 4, 3) := by decide +kernel
theorem dX11_isOrder_83 : decode cX11_isOrder 83 = .ok (.iconst 0, 1) := by decide +kernel
theorem dX11_isOrder_84 : decode cX11_isOrder 84 = .ok (.ireturn, 1) := by decide +kernel
theorem dX11_knightsByHosts_0 : decode cX11_knightsByHosts 0 = .ok (.aload_n 0, 1) := by decide +kernel
theorem dX11_knightsByHosts_1 : decode cX11_knightsByHosts 1 = .ok (.getfield 92, 3) := by decide +kernel
theorem dX11_knightsByHosts_4 : decode cX11_knightsByHosts 4 = .ok (.aload_n 0, 1) := by decide +kernel
theorem dX11_knightsByHosts_5 : decode cX11_knightsByHosts 5 = .ok (.getfield 88, 3) := by decide +kernel
theorem dX11_knightsByHosts_8 : decode cX11_knightsByHosts 8 = .ok (.invokevirtual 159, 3) := by decide +kernel
theorem dX11_knightsByHosts_11 : decode cX11_knightsByHosts 11 = .ok (.iconst 0, 1) := by decide +kernel
theorem dX11_knightsByHosts_12 : decode cX11_knightsByHosts 12 = .ok (.istore_n 2, 1) := by decide +kernel
theorem dX11_knightsByHosts_13 : decode cX11_knightsByHosts 13 = .ok (.iload_n 2, 1) := by decide +kernel
theorem dX11_knightsByHosts_14 : decode cX11_knightsByHosts 14 = .ok (.iload_n 1, 1) := by decide +kernel
theorem dX11_knightsByHosts_15 : decode cX11_knightsByHosts 15 = .ok (.if_icmp .ge 37, 3) := by decide +kernel
theorem dX11_knightsByHosts_18 : decode cX11_knightsByHosts 18 = .ok (.aload_n 0, 1) := by decide +kernel
theorem dX11_knightsByHosts_19 : decode cX11_knightsByHosts 19 = .ok (.getfield 92, 3) := by decide +kernel
theorem dX11_knightsByHosts_22 : decode cX11_knightsByHosts 22 = .ok (.aload_n 0, 1) := by decide +kernel
theorem dX11_knightsByHosts_23 : decode cX11_knightsByHosts 23 = .ok (.getfield 58, 3) := by decide +kernel
theorem dX11_knightsByHosts_26 : decode cX11_knightsByHosts 26 = .ok (.iload_n 2, 1) := by decide +kernel
theorem dX11_knightsByHosts_27 : decode cX11_knightsByHosts 27 = .ok (.aload_n 0, 1) := by decide +kernel
theorem dX11_knightsByHosts_28 : decode cX11_knightsByHosts 28 = .ok (.getfield 88, 3) := by decide +kernel
theorem dX11_knightsByHosts_31 : decode cX11_knightsByHosts 31 = .ok (.getfield 166, 3) := by decide +kernel
theorem dX11_knightsByHosts_34 : decode cX11_knightsByHosts 34 = .ok (.irem, 1) := by decide +kernel
theorem dX11_knightsByHosts_35 : decode cX11_knightsByHosts 35 = .ok (.iaload, 1) := by decide +kernel
theorem dX11_knightsByHosts_36 : decode cX11_knightsByHosts 36 = .ok (.putfield 252, 3) := by decide +kernel
theorem dX11_knightsByHosts_39 : decode cX11_knightsByHosts 39 = .ok (.aload_n 0, 1) := by decide +kernel
theorem dX11_knightsByHosts_40 : decode cX11_knightsByHosts 40 = .ok (.getfield 92, 3) := by decide +kernel
theorem dX11_knightsByHosts_43 : decode cX11_knightsByHosts 43 = .ok (.invokevirtual 213, 3) := by decide +kernel
theorem dX11_knightsByHosts_46 : decode cX11_knightsByHosts 46 = .ok (.iinc 2 1, 3) := by decide +kernel
theorem dX11_knightsByHosts_49 : decode cX11_knightsByHosts 49 = .ok (.goto (-36), 3) := by decide +kernel
theorem dX11_knightsByHosts_52 : decode cX11_knightsByHosts 52 = .ok (.aload_n 0, 1) := by decide +kernel
theorem dX11_knightsByHosts_53 : decode cX11_knightsByHosts 53 = .ok (.getfield 92, 3) := by decide +kernel
theorem dX11_knightsByHosts_56 : decode cX11_knightsByHosts 56 = .ok (.getfield 216, 3) := by decide +kernel
theorem dX11_knightsByHosts_59 : decode cX11_knightsByHosts 59 = .ok (.ireturn, 1) := by decide +kernel
theorem dX11_knightsGoAs_0 : decode cX11_knightsGoAs 0 = .ok (.iconst 0, 1) := by decide +kernel
theorem dX11_knightsGoAs_1 : decode cX11_knightsGoAs 1 = .ok (.istore 4, 2) := by decide +kernel
theorem dX11_knightsGoAs_3 : decode cX11_knightsGoAs 3 = .ok (.iload 4, 2) := by decide +kernel
theorem dX11_knightsGoAs_5 : decode cX11_knightsGoAs 5 = .ok (.iload_n 3, 1) := by decide +kernel
theorem dX11_knightsGoAs_6 : decode cX11_knightsGoAs 6 = .ok (.if_icmp .ge 37, 3) := by decide +kernel
theorem dX11_knightsGoAs_9 : decode cX11_knightsGoAs 9 = .ok (.aload_n 0, 1) := by decide +kernel
theorem dX11_knightsGoAs_10 : decode cX11_knightsGoAs 10 = .ok (.getfield 92, 3) := by decide +kernel
theorem dX11_knightsGoAs_13 : decode cX11_knightsGoAs 13 = .ok (.invokevirtual 213, 3) := by decide +kernel
theorem dX11_knightsGoAs_16 : decode cX11_knightsGoAs 16 = .ok (.aload_n 0, 1) := by decide +kernel
theorem dX11_knightsGoAs_17 : decode cX11_knightsGoAs 17 = .ok (.getfield 92, 3) := by decide +kernel
theorem dX11_knightsGoAs_20 : decode cX11_knightsGoAs 20 = .ok (.getfield 216, 3) := by decide +kernel
theorem dX11_knightsGoAs_23 : decode cX11_knightsGoAs 23 = .ok (.aload_n 1, 1) := by decide +kernel
theorem dX11_knightsGoAs_24 : decode cX11_knightsGoAs 24 = .ok (.getfield 120, 3) := by decide +kernel
theorem dX11_knightsGoAs_27 : decode cX11_knightsGoAs 27 = .ok (.iload_n 2, 1) := by decide +kernel
theorem dX11_knightsGoAs_28 : decode cX11_knightsGoAs 28 = .ok (.iload 4, 2) := by decide +kernel
theorem dX11_knightsGoAs_30 : decode cX11_knightsGoAs 30 = .ok (.iadd, 1) := by decide +kernel
theorem dX11_knightsGoAs_31 : decode cX11_knightsGoAs 31 = .ok (.iaload, 1) := by decide +kernel
theorem dX11_knightsGoAs_32 : decode cX11_knightsGoAs 32 = .ok (.if_icmp .eq 5, 3) := by decide +kernel
theorem dX11_knightsGoAs_35 : decode cX11_knightsGoAs 35 = .ok (.iconst 0, 1) := by decide +kernel
theorem dX11_knightsGoAs_36 : decode cX11_knightsGoAs 36 = .ok (.ireturn, 1) := by decide +kernel
theorem dX11_knightsGoAs_37 : decode cX11_knightsGoAs 37 = .ok (.iinc 4 1, 3) := by decide +kernel
theorem dX11_knightsGoAs_40 : decode cX11_knightsGoAs 40 = .ok (.goto (-37), 3) := by decide +kernel
theorem dX11_knightsGoAs_43 : decode cX11_knightsGoAs 43 = .ok (.iconst 1, 1) := by decide +kernel
theorem dX11_knightsGoAs_44 : decode cX11_knightsGoAs 44 = .ok (.ireturn, 1) := by decide +kernel
theorem dX11_casesOf_0 : decode cX11_casesOf 0 = .ok (.iconst 1, 1) := by decide +kernel
theorem dX11_casesOf_1 : decode cX11_casesOf 1 = .ok (.istore_n 3, 1) := by decide +kernel
theorem dX11_casesOf_2 : decode cX11_casesOf 2 = .ok (.iconst 0, 1) := by decide +kernel
theorem dX11_casesOf_3 : decode cX11_casesOf 3 = .ok (.istore 4, 2) := by decide +kernel
theorem dX11_casesOf_5 : decode cX11_casesOf 5 = .ok (.iload 4, 2) := by decide +kernel
theorem dX11_casesOf_7 : decode cX11_casesOf 7 = .ok (.aload_n 0, 1) := by decide +kernel
theorem dX11_casesOf_8 : decode cX11_casesOf 8 = .ok (.getfield 88, 3) := by decide +kernel
theorem dX11_casesOf_11 : decode cX11_casesOf 11 = .ok (.getfield 166, 3) := by decide +kernel
theorem dX11_casesOf_14 : decode cX11_casesOf 14 = .ok (.if_icmp .ge 68, 3) := by decide +kernel
theorem dX11_casesOf_17 : decode cX11_casesOf 17 = .ok (.iload_n 1, 1) := by decide +kernel
theorem dX11_casesOf_18 : decode cX11_casesOf 18 = .ok (.iload 4, 2) := by decide +kernel
theorem dX11_casesOf_20 : decode cX11_casesOf 20 = .ok (.ishr, 1) := by decide +kernel
theorem dX11_casesOf_21 : decode cX11_casesOf 21 = .ok (.iconst 1, 1) := by decide +kernel
theorem dX11_casesOf_22 : decode cX11_casesOf 22 = .ok (.iand, 1) := by decide +kernel
theorem dX11_casesOf_23 : decode cX11_casesOf 23 = .ok (.iconst 1, 1) := by decide +kernel
theorem dX11_casesOf_24 : decode cX11_casesOf 24 = .ok (.if_icmp .ne 7, 3) := by decide +kernel
theorem dX11_casesOf_27 : decode cX11_casesOf 27 = .ok (.iconst 1, 1) := by decide +kernel
theorem dX11_casesOf_28 : decode cX11_casesOf 28 = .ok (.goto 4, 3) := by decide +kernel
theorem dX11_casesOf_31 : decode cX11_casesOf 31 = .ok (.iconst 0, 1) := by decide +kernel
theorem dX11_casesOf_32 : decode cX11_casesOf 32 = .ok (.istore 5, 2) := by decide +kernel
theorem dX11_casesOf_34 : decode cX11_casesOf 34 = .ok (.aload_n 0, 1) := by decide +kernel
theorem dX11_casesOf_35 : decode cX11_casesOf 35 = .ok (.getfield 88, 3) := by decide +kernel
theorem dX11_casesOf_38 : decode cX11_casesOf 38 = .ok (.getfield 184, 3) := by decide +kernel
theorem dX11_casesOf_41 : decode cX11_casesOf 41 = .ok (.iload 4, 2) := by decide +kernel
theorem dX11_casesOf_43 : decode cX11_casesOf 43 = .ok (.aaload, 1) := by decide +kernel
theorem dX11_casesOf_44 : decode cX11_casesOf 44 = .ok (.getfield 237, 3) := by decide +kernel
theorem dX11_casesOf_47 : decode cX11_casesOf 47 = .ok (.ifCond .eq 22, 3) := by decide +kernel
theorem dX11_casesOf_50 : decode cX11_casesOf 50 = .ok (.iload_n 3, 1) := by decide +kernel
theorem dX11_casesOf_51 : decode cX11_casesOf 51 = .ok (.iload 5, 2) := by decide +kernel
theorem dX11_casesOf_53 : decode cX11_casesOf 53 = .ok (.ifCond .eq 10, 3) := by decide +kernel
theorem dX11_casesOf_56 : decode cX11_casesOf 56 = .ok (.bipush 10, 2) := by decide +kernel
theorem dX11_casesOf_58 : decode cX11_casesOf 58 = .ok (.iload_n 2, 1) := by decide +kernel
theorem dX11_casesOf_59 : decode cX11_casesOf 59 = .ok (.isub, 1) := by decide +kernel
theorem dX11_casesOf_60 : decode cX11_casesOf 60 = .ok (.goto 4, 3) := by decide +kernel
theorem dX11_casesOf_63 : decode cX11_casesOf 63 = .ok (.iload_n 2, 1) := by decide +kernel
theorem dX11_casesOf_64 : decode cX11_casesOf 64 = .ok (.imul, 1) := by decide +kernel
theorem dX11_casesOf_65 : decode cX11_casesOf 65 = .ok (.istore_n 3, 1) := by decide +kernel
theorem dX11_casesOf_66 : decode cX11_casesOf 66 = .ok (.goto 10, 3) := by decide +kernel
theorem dX11_casesOf_69 : decode cX11_casesOf 69 = .ok (.iload 5, 2) := by decide +kernel
theorem dX11_casesOf_71 : decode cX11_casesOf 71 = .ok (.ifCond .eq 5, 3) := by decide +kernel
theorem dX11_casesOf_74 : decode cX11_casesOf 74 = .ok (.iconst 0, 1) := by decide +kernel
theorem dX11_casesOf_75 : decode cX11_casesOf 75 = .ok (.ireturn, 1) := by decide +kernel
theorem dX11_casesOf_76 : decode cX11_casesOf 76 = .ok (.iinc 4 1, 3) := by decide +kernel
theorem dX11_casesOf_79 : decode cX11_casesOf 79 = .ok (.goto (-74), 3) := by decide +kernel
theorem dX11_casesOf_82 : decode cX11_casesOf 82 = .ok (.iload_n 3, 1) := by decide +kernel
theorem dX11_casesOf_83 : decode cX11_casesOf 83 = .ok (.ireturn, 1) := by decide +kernel
theorem dX11_greatestWithLiars_0 : decode cX11_greatestWithLiars 0 = .ok (.aload_n 0, 1) := by decide +kernel
theorem dX11_greatestWithLiars_1 : decode cX11_greatestWithLiars 1 = .ok (.getfield 92, 3) := by decide +kernel
theorem dX11_greatestWithLiars_4 : decode cX11_greatestWithLiars 4 = .ok (.aload_n 0, 1) := by decide +kernel
theorem dX11_greatestWithLiars_5 : decode cX11_greatestWithLiars 5 = .ok (.getfield 88, 3) := by decide +kernel
theorem dX11_greatestWithLiars_8 : decode cX11_greatestWithLiars 8 = .ok (.invokevirtual 159, 3) := by decide +kernel
theorem dX11_greatestWithLiars_11 : decode cX11_greatestWithLiars 11 = .ok (.iconst 0, 1) := by decide +kernel
theorem dX11_greatestWithLiars_12 : decode cX11_greatestWithLiars 12 = .ok (.istore_n 2, 1) := by decide +kernel
theorem dX11_greatestWithLiars_13 : decode cX11_greatestWithLiars 13 = .ok (.iload_n 2, 1) := by decide +kernel
theorem dX11_greatestWithLiars_14 : decode cX11_greatestWithLiars 14 = .ok (.aload_n 0, 1) := by decide +kernel
theorem dX11_greatestWithLiars_15 : decode cX11_greatestWithLiars 15 = .ok (.getfield 88, 3) := by decide +kernel
theorem dX11_greatestWithLiars_18 : decode cX11_greatestWithLiars 18 = .ok (.getfield 166, 3) := by decide +kernel
theorem dX11_greatestWithLiars_21 : decode cX11_greatestWithLiars 21 = .ok (.if_icmp .ge 31, 3) := by decide +kernel
theorem dX11_greatestWithLiars_24 : decode cX11_greatestWithLiars 24 = .ok (.iload_n 1, 1) := by decide +kernel
theorem dX11_greatestWithLiars_25 : decode cX11_greatestWithLiars 25 = .ok (.iload_n 2, 1) := by decide +kernel
theorem dX11_greatestWithLiars_26 : decode cX11_greatestWithLiars 26 = .ok (.ishr, 1) := by decide +kernel
theorem dX11_greatestWithLiars_27 : decode cX11_greatestWithLiars 27 = .ok (.iconst 1, 1) := by decide +kernel
theorem dX11_greatestWithLiars_28 : decode cX11_greatestWithLiars 28 = .ok (.iand, 1) := by decide +kernel
theorem dX11_greatestWithLiars_29 : decode cX11_greatestWithLiars 29 = .ok (.iconst 1, 1) := by decide +kernel
theorem dX11_greatestWithLiars_30 : decode cX11_greatestWithLiars 30 = .ok (.if_icmp .ne 16, 3) := by decide +kernel
theorem dX11_greatestWithLiars_33 : decode cX11_greatestWithLiars 33 = .ok (.aload_n 0, 1) := by decide +kernel
theorem dX11_greatestWithLiars_34 : decode cX11_greatestWithLiars 34 = .ok (.getfield 92, 3) := by decide +kernel
theorem dX11_greatestWithLiars_37 : decode cX11_greatestWithLiars 37 = .ok (.getfield 184, 3) := by decide +kernel
theorem dX11_greatestWithLiars_40 : decode cX11_greatestWithLiars 40 = .ok (.iload_n 2, 1) := by decide +kernel
theorem dX11_greatestWithLiars_41 : decode cX11_greatestWithLiars 41 = .ok (.aaload, 1) := by decide +kernel
theorem dX11_greatestWithLiars_42 : decode cX11_greatestWithLiars 42 = .ok (.iconst 0, 1) := by decide +kernel
theorem dX11_greatestWithLiars_43 : decode cX11_greatestWithLiars 43 = .ok (.putfield 350, 3) := by decide +kernel
theorem dX11_greatestWithLiars_46 : decode cX11_greatestWithLiars 46 = .ok (.iinc 2 1, 3) := by decide +kernel
theorem dX11_greatestWithLiars_49 : decode cX11_greatestWithLiars 49 = .ok (.goto (-36), 3) := by decide +kernel
theorem dX11_greatestWithLiars_52 : decode cX11_greatestWithLiars 52 = .ok (.aload_n 0, 1) := by decide +kernel
theorem dX11_greatestWithLiars_53 : decode cX11_greatestWithLiars 53 = .ok (.getfield 92, 3) := by decide +kernel
theorem dX11_greatestWithLiars_56 : decode cX11_greatestWithLiars 56 = .ok (.aload_n 0, 1) := by decide +kernel
theorem dX11_greatestWithLiars_57 : decode cX11_greatestWithLiars 57 = .ok (.getfield 92, 3) := by decide +kernel
theorem dX11_greatestWithLiars_60 : decode cX11_greatestWithLiars 60 = .ok (.getfield 196, 3) := by decide +kernel
theorem dX11_greatestWithLiars_63 : decode cX11_greatestWithLiars 63 = .ok (.aload_n 0, 1) := by decide +kernel
theorem dX11_greatestWithLiars_64 : decode cX11_greatestWithLiars 64 = .ok (.getfield 55, 3) := by decide +kernel
theorem dX11_greatestWithLiars_67 : decode cX11_greatestWithLiars 67 = .ok (.invokevirtual 199, 3) := by decide +kernel
theorem dX11_greatestWithLiars_70 : decode cX11_greatestWithLiars 70 = .ok (.aload_n 0, 1) := by decide +kernel
theorem dX11_greatestWithLiars_71 : decode cX11_greatestWithLiars 71 = .ok (.getfield 55, 3) := by decide +kernel
theorem dX11_greatestWithLiars_74 : decode cX11_greatestWithLiars 74 = .ok (.aload_n 0, 1) := by decide +kernel
theorem dX11_greatestWithLiars_75 : decode cX11_greatestWithLiars 75 = .ok (.getfield 88, 3) := by decide +kernel
theorem dX11_greatestWithLiars_78 : decode cX11_greatestWithLiars 78 = .ok (.getfield 166, 3) := by decide +kernel
theorem dX11_greatestWithLiars_81 : decode cX11_greatestWithLiars 81 = .ok (.invokestatic 206, 3) := by decide +kernel
theorem dX11_greatestWithLiars_84 : decode cX11_greatestWithLiars 84 = .ok (.ireturn, 1) := by decide +kernel
theorem dX11_commonDivisor_0 : decode cX11_commonDivisor 0 = .ok (.lload_n 0, 1) := by decide +kernel
theorem dX11_commonDivisor_1 : decode cX11_commonDivisor 1 = .ok (.lstore 4, 2) := by decide +kernel
theorem dX11_commonDivisor_3 : decode cX11_commonDivisor 3 = .ok (.lload_n 2, 1) := by decide +kernel
theorem dX11_commonDivisor_4 : decode cX11_commonDivisor 4 = .ok (.lstore 6, 2) := by decide +kernel
theorem dX11_commonDivisor_6 : decode cX11_commonDivisor 6 = .ok (.iconst 0, 1) := by decide +kernel
theorem dX11_commonDivisor_7 : decode cX11_commonDivisor 7 = .ok (.istore 8, 2) := by decide +kernel
theorem dX11_commonDivisor_9 : decode cX11_commonDivisor 9 = .ok (.iload 8, 2) := by decide +kernel
theorem dX11_commonDivisor_11 : decode cX11_commonDivisor 11 = .ok (.bipush 100, 2) := by decide +kernel
theorem dX11_commonDivisor_13 : decode cX11_commonDivisor 13 = .ok (.if_icmp .ge 31, 3) := by decide +kernel
theorem dX11_commonDivisor_16 : decode cX11_commonDivisor 16 = .ok (.lload 6, 2) := by decide +kernel
theorem dX11_commonDivisor_18 : decode cX11_commonDivisor 18 = .ok (.lconst 0, 1) := by decide +kernel
theorem dX11_commonDivisor_19 : decode cX11_commonDivisor 19 = .ok (.lcmp, 1) := by decide +kernel
theorem dX11_commonDivisor_20 : decode cX11_commonDivisor 20 = .ok (.ifCond .eq 24, 3) := by decide +kernel
theorem dX11_commonDivisor_23 : decode cX11_commonDivisor 23 = .ok (.lload 4, 2) := by decide +kernel
theorem dX11_commonDivisor_25 : decode cX11_commonDivisor 25 = .ok (.lload 6, 2) := by decide +kernel
theorem dX11_commonDivisor_27 : decode cX11_commonDivisor 27 = .ok (.lrem, 1) := by decide +kernel
theorem dX11_commonDivisor_28 : decode cX11_commonDivisor 28 = .ok (.lstore 9, 2) := by decide +kernel
theorem dX11_commonDivisor_30 : decode cX11_commonDivisor 30 = .ok (.lload 6, 2) := by decide +kernel
theorem dX11_commonDivisor_32 : decode cX11_commonDivisor 32 = .ok (.lstore 4, 2) := by decide +kernel
theorem dX11_commonDivisor_34 : decode cX11_commonDivisor 34 = .ok (.lload 9, 2) := by decide +kernel
theorem dX11_commonDivisor_36 : decode cX11_commonDivisor 36 = .ok (.lstore 6, 2) := by decide +kernel
theorem dX11_commonDivisor_38 : decode cX11_commonDivisor 38 = .ok (.iinc 8 1, 3) := by decide +kernel
theorem dX11_commonDivisor_41 : decode cX11_commonDivisor 41 = .ok (.goto (-32), 3) := by decide +kernel
theorem dX11_commonDivisor_44 : decode cX11_commonDivisor 44 = .ok (.lload 4, 2) := by decide +kernel
theorem dX11_commonDivisor_46 : decode cX11_commonDivisor 46 = .ok (.lreturn, 1) := by decide +kernel
