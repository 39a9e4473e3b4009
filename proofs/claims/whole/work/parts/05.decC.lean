theorem dX8_init_0 : decode cX8_init 0 = .ok (.aload_n 0, 1) := by decide +kernel
theorem dX8_init_1 : decode cX8_init 1 = .ok (.invokespecial 1, 3) := by decide +kernel
theorem dX8_init_4 : decode cX8_init 4 = .ok (.aload_n 0, 1) := by decide +kernel
theorem dX8_init_5 : decode cX8_init 5 = .ok (.bipush 6, 2) := by decide +kernel
theorem dX8_init_7 : decode cX8_init 7 = .ok (.newarray .int, 2) := by decide +kernel
theorem dX8_init_9 : decode cX8_init 9 = .ok (.putfield 7, 3) := by decide +kernel
theorem dX8_init_12 : decode cX8_init 12 = .ok (.aload_n 0, 1) := by decide +kernel
theorem dX8_init_13 : decode cX8_init 13 = .ok (.bipush 6, 2) := by decide +kernel
theorem dX8_init_15 : decode cX8_init 15 = .ok (.newarray .int, 2) := by decide +kernel
theorem dX8_init_17 : decode cX8_init 17 = .ok (.putfield 13, 3) := by decide +kernel
theorem dX8_init_20 : decode cX8_init 20 = .ok (.aload_n 0, 1) := by decide +kernel
theorem dX8_init_21 : decode cX8_init 21 = .ok (.sipush 240, 3) := by decide +kernel
theorem dX8_init_24 : decode cX8_init 24 = .ok (.newarray .int, 2) := by decide +kernel
theorem dX8_init_26 : decode cX8_init 26 = .ok (.putfield 16, 3) := by decide +kernel
theorem dX8_init_29 : decode cX8_init 29 = .ok (.aload_n 0, 1) := by decide +kernel
theorem dX8_init_30 : decode cX8_init 30 = .ok (.bipush 40, 2) := by decide +kernel
theorem dX8_init_32 : decode cX8_init 32 = .ok (.newarray .int, 2) := by decide +kernel
theorem dX8_init_34 : decode cX8_init 34 = .ok (.putfield 19, 3) := by decide +kernel
theorem dX8_init_37 : decode cX8_init 37 = .ok (.aload_n 0, 1) := by decide +kernel
theorem dX8_init_38 : decode cX8_init 38 = .ok (.iconst 4, 1) := by decide +kernel
theorem dX8_init_39 : decode cX8_init 39 = .ok (.newarray .int, 2) := by decide +kernel
theorem dX8_init_41 : decode cX8_init 41 = .ok (.putfield 22, 3) := by decide +kernel
theorem dX8_init_44 : decode cX8_init 44 = .ok (.aload_n 0, 1) := by decide +kernel
theorem dX8_init_45 : decode cX8_init 45 = .ok (.sipush 480, 3) := by decide +kernel
theorem dX8_init_48 : decode cX8_init 48 = .ok (.newarray .byte, 2) := by decide +kernel
theorem dX8_init_50 : decode cX8_init 50 = .ok (.putfield 25, 3) := by decide +kernel
theorem dX8_init_53 : decode cX8_init 53 = .ok (.aload_n 0, 1) := by decide +kernel
theorem dX8_init_54 : decode cX8_init 54 = .ok (.bipush 6, 2) := by decide +kernel
theorem dX8_init_56 : decode cX8_init 56 = .ok (.newarray .int, 2) := by decide +kernel
theorem dX8_init_58 : decode cX8_init 58 = .ok (.putfield 29, 3) := by decide +kernel
theorem dX8_init_61 : decode cX8_init 61 = .ok (.aload_n 0, 1) := by decide +kernel
theorem dX8_init_62 : decode cX8_init 62 = .ok (.bipush 12, 2) := by decide +kernel
theorem dX8_init_64 : decode cX8_init 64 = .ok (.newarray .int, 2) := by decide +kernel
theorem dX8_init_66 : decode cX8_init 66 = .ok (.putfield 32, 3) := by decide +kernel
theorem dX8_init_69 : decode cX8_init 69 = .ok (.aload_n 0, 1) := by decide +kernel
theorem dX8_init_70 : decode cX8_init 70 = .ok (.bipush 12, 2) := by decide +kernel
theorem dX8_init_72 : decode cX8_init 72 = .ok (.newarray .int, 2) := by decide +kernel
theorem dX8_init_74 : decode cX8_init 74 = .ok (.putfield 35, 3) := by decide +kernel
theorem dX8_init_77 : decode cX8_init 77 = .ok (.aload_n 0, 1) := by decide +kernel
theorem dX8_init_78 : decode cX8_init 78 = .ok (.bipush 6, 2) := by decide +kernel
theorem dX8_init_80 : decode cX8_init 80 = .ok (.newarray .int, 2) := by decide +kernel
theorem dX8_init_82 : decode cX8_init 82 = .ok (.putfield 38, 3) := by decide +kernel
theorem dX8_init_85 : decode cX8_init 85 = .ok (.aload_n 0, 1) := by decide +kernel
theorem dX8_init_86 : decode cX8_init 86 = .ok (.bipush 12, 2) := by decide +kernel
theorem dX8_init_88 : decode cX8_init 88 = .ok (.newarray .int, 2) := by decide +kernel
theorem dX8_init_90 : decode cX8_init 90 = .ok (.putfield 41, 3) := by decide +kernel
theorem dX8_init_93 : decode cX8_init 93 = .ok (.aload_n 0, 1) := by decide +kernel
theorem dX8_init_94 : decode cX8_init 94 = .ok (.bipush 12, 2) := by decide +kernel
theorem dX8_init_96 : decode cX8_init 96 = .ok (.newarray .int, 2) := by decide +kernel
theorem dX8_init_98 : decode cX8_init 98 = .ok (.putfield 44, 3) := by decide +kernel
theorem dX8_init_101 : decode cX8_init 101 = .ok (.aload_n 0, 1) := by decide +kernel
theorem dX8_init_102 : decode cX8_init 102 = .ok (.sipush 160, 3) := by decide +kernel
theorem dX8_init_105 : decode cX8_init 105 = .ok (.newarray .int, 2) := by decide +kernel
theorem dX8_init_107 : decode cX8_init 107 = .ok (.putfield 47, 3) := by decide +kernel
theorem dX8_init_110 : decode cX8_init 110 = .ok (.aload_n 0, 1) := by decide +kernel
theorem dX8_init_111 : decode cX8_init 111 = .ok (.sipush 160, 3) := by decide +kernel
theorem dX8_init_114 : decode cX8_init 114 = .ok (.newarray .int, 2) := by decide +kernel
theorem dX8_init_116 : decode cX8_init 116 = .ok (.putfield 50, 3) := by decide +kernel
theorem dX8_init_119 : decode cX8_init 119 = .ok (.aload_n 0, 1) := by decide +kernel
theorem dX8_init_120 : decode cX8_init 120 = .ok (.bipush 24, 2) := by decide +kernel
theorem dX8_init_122 : decode cX8_init 122 = .ok (.newarray .int, 2) := by decide +kernel
theorem dX8_init_124 : decode cX8_init 124 = .ok (.putfield 53, 3) := by decide +kernel
theorem dX8_init_127 : decode cX8_init 127 = .ok (.aload_n 0, 1) := by decide +kernel
theorem dX8_init_128 : decode cX8_init 128 = .ok (.bipush 24, 2) := by decide +kernel
theorem dX8_init_130 : decode cX8_init 130 = .ok (.newarray .int, 2) := by decide +kernel
theorem dX8_init_132 : decode cX8_init 132 = .ok (.putfield 56, 3) := by decide +kernel
theorem dX8_init_135 : decode cX8_init 135 = .ok (.aload_n 0, 1) := by decide +kernel
theorem dX8_init_136 : decode cX8_init 136 = .ok (.bipush 24, 2) := by decide +kernel
theorem dX8_init_138 : decode cX8_init 138 = .ok (.newarray .int, 2) := by decide +kernel
theorem dX8_init_140 : decode cX8_init 140 = .ok (.putfield 59, 3) := by decide +kernel
theorem dX8_init_143 : decode cX8_init 143 = .ok (.aload_n 0, 1) := by decide +kernel
theorem dX8_init_144 : decode cX8_init 144 = .ok (.bipush 24, 2) := by decide +kernel
theorem dX8_init_146 : decode cX8_init 146 = .ok (.newarray .int, 2) := by decide +kernel
theorem dX8_init_148 : decode cX8_init 148 = .ok (.putfield 62, 3) := by decide +kernel
theorem dX8_init_151 : decode cX8_init 151 = .ok (.aload_n 0, 1) := by decide +kernel
theorem dX8_init_152 : decode cX8_init 152 = .ok (.bipush 24, 2) := by decide +kernel
theorem dX8_init_154 : decode cX8_init 154 = .ok (.newarray .int, 2) := by decide +kernel
theorem dX8_init_156 : decode cX8_init 156 = .ok (.putfield 65, 3) := by decide +kernel
theorem dX8_init_159 : decode cX8_init 159 = .ok (.aload_n 0, 1) := by decide +kernel
theorem dX8_init_160 : decode cX8_init 160 = .ok (.bipush 40, 2) := by decide +kernel
theorem dX8_init_162 : decode cX8_init 162 = .ok (.newarray .int, 2) := by decide +kernel
theorem dX8_init_164 : decode cX8_init 164 = .ok (.putfield 68, 3) := by decide +kernel
theorem dX8_init_167 : decode cX8_init 167 = .ok (.aload_n 0, 1) := by decide +kernel
theorem dX8_init_168 : decode cX8_init 168 = .ok (.bipush 6, 2) := by decide +kernel
theorem dX8_init_170 : decode cX8_init 170 = .ok (.newarray .int, 2) := by decide +kernel
theorem dX8_init_172 : decode cX8_init 172 = .ok (.putfield 71, 3) := by decide +kernel
theorem dX8_init_175 : decode cX8_init 175 = .ok (.aload_n 0, 1) := by decide +kernel
theorem dX8_init_176 : decode cX8_init 176 = .ok (.sipush 144, 3) := by decide +kernel
theorem dX8_init_179 : decode cX8_init 179 = .ok (.newarray .int, 2) := by decide +kernel
theorem dX8_init_181 : decode cX8_init 181 = .ok (.putfield 74, 3) := by decide +kernel
theorem dX8_init_184 : decode cX8_init 184 = .ok (.aload_n 0, 1) := by decide +kernel
theorem dX8_init_185 : decode cX8_init 185 = .ok (.bipush 6, 2) := by decide +kernel
theorem dX8_init_187 : decode cX8_init 187 = .ok (.newarray .int, 2) := by decide +kernel
theorem dX8_init_189 : decode cX8_init 189 = .ok (.putfield 77, 3) := by decide +kernel
theorem dX8_init_192 : decode cX8_init 192 = .ok (.aload_n 0, 1) := by decide +kernel
theorem dX8_init_193 : decode cX8_init 193 = .ok (.bipush 6, 2) := by decide +kernel
theorem dX8_init_195 : decode cX8_init 195 = .ok (.newarray .int, 2) := by decide +kernel
theorem dX8_init_197 : decode cX8_init 197 = .ok (.putfield 80, 3) := by decide +kernel
theorem dX8_init_200 : decode cX8_init 200 = .ok (.aload_n 0, 1) := by decide +kernel
theorem dX8_init_201 : decode cX8_init 201 = .ok (.bipush 6, 2) := by decide +kernel
theorem dX8_init_203 : decode cX8_init 203 = .ok (.newarray .int, 2) := by decide +kernel
theorem dX8_init_205 : decode cX8_init 205 = .ok (.putfield 83, 3) := by decide +kernel
theorem dX8_init_208 : decode cX8_init 208 = .ok (.aload_n 0, 1) := by decide +kernel
theorem dX8_init_209 : decode cX8_init 209 = .ok (.sipush 24576, 3) := by decide +kernel
theorem dX8_init_212 : decode cX8_init 212 = .ok (.newarray .int, 2) := by decide +kernel
theorem dX8_init_214 : decode cX8_init 214 = .ok (.putfield 86, 3) := by decide +kernel
theorem dX8_init_217 : decode cX8_init 217 = .ok (.aload_n 0, 1) := by decide +kernel
theorem dX8_init_218 : decode cX8_init 218 = .ok (.sipush 24576, 3) := by decide +kernel
theorem dX8_init_221 : decode cX8_init 221 = .ok (.newarray .int, 2) := by decide +kernel
theorem dX8_init_223 : decode cX8_init 223 = .ok (.putfield 89, 3) := by decide +kernel
theorem dX8_init_226 : decode cX8_init 226 = .ok (.aload_n 0, 1) := by decide +kernel
theorem dX8_init_227 : decode cX8_init 227 = .ok (.bipush 6, 2) := by decide +kernel
theorem dX8_init_229 : decode cX8_init 229 = .ok (.newarray .int, 2) := by decide +kernel
theorem dX8_init_231 : decode cX8_init 231 = .ok (.putfield 92, 3) := by decide +kernel
theorem dX8_init_234 : decode cX8_init 234 = .ok (.aload_n 0, 1) := by decide +kernel
theorem dX8_init_235 : decode cX8_init 235 = .ok (.bipush 6, 2) := by decide +kernel
theorem dX8_init_237 : decode cX8_init 237 = .ok (.newarray .int, 2) := by decide +kernel
theorem dX8_init_239 : decode cX8_init 239 = .ok (.putfield 95, 3) := by decide +kernel
theorem dX8_init_242 : decode cX8_init 242 = .ok (.aload_n 0, 1) := by decide +kernel
theorem dX8_init_243 : decode cX8_init 243 = .ok (.bipush 6, 2) := by decide +kernel
theorem dX8_init_245 : decode cX8_init 245 = .ok (.newarray .int, 2) := by decide +kernel
theorem dX8_init_247 : decode cX8_init 247 = .ok (.putfield 98, 3) := by decide +kernel
theorem dX8_init_250 : decode cX8_init 250 = .ok (.aload_n 0, 1) := by decide +kernel
theorem dX8_init_251 : decode cX8_init 251 = .ok (.bipush 6, 2) := by decide +kernel
theorem dX8_init_253 : decode cX8_init 253 = .ok (.newarray .int, 2) := by decide +kernel
theorem dX8_init_255 : decode cX8_init 255 = .ok (.putfield 101, 3) := by decide +kernel
theorem dX8_init_258 : decode cX8_init 258 = .ok (.aload_n 0, 1) := by decide +kernel
theorem dX8_init_259 : decode cX8_init 259 = .ok (.lconst 1, 1) := by decide +kernel
theorem dX8_init_260 : decode cX8_init 260 = .ok (.putfield 104, 3) := by decide +kernel
theorem dX8_init_263 : decode cX8_init 263 = .ok (.iconst 0, 1) := by decide +kernel
theorem dX8_init_264 : decode cX8_init 264 = .ok (.istore_n 1, 1) := by decide +kernel
theorem dX8_init_265 : decode cX8_init 265 = .ok (.iload_n 1, 1) := by decide +kernel
theorem dX8_init_266 : decode cX8_init 266 = .ok (.bipush 6, 2) := by decide +kernel
theorem dX8_init_268 : decode cX8_init 268 = .ok (.if_icmp .ge 16, 3) := by decide +kernel
theorem dX8_init_271 : decode cX8_init 271 = .ok (.aload_n 0, 1) := by decide +kernel
theorem dX8_init_272 : decode cX8_init 272 = .ok (.getfield 13, 3) := by decide +kernel
theorem dX8_init_275 : decode cX8_init 275 = .ok (.iload_n 1, 1) := by decide +kernel
theorem dX8_init_276 : decode cX8_init 276 = .ok (.iconst (-1), 1) := by decide +kernel
theorem dX8_init_277 : decode cX8_init 277 = .ok (.iastore, 1) := by decide +kernel
theorem dX8_init_278 : decode cX8_init 278 = .ok (.iinc 1 1, 3) := by decide +kernel
theorem dX8_init_281 : decode cX8_init 281 = .ok (.goto (-16), 3) := by decide +kernel
theorem dX8_init_284 : decode cX8_init 284 = .ok (.iconst 0, 1) := by decide +kernel
theorem dX8_init_285 : decode cX8_init 285 = .ok (.istore_n 1, 1) := by decide +kernel
theorem dX8_init_286 : decode cX8_init 286 = .ok (.iload_n 1, 1) := by decide +kernel
theorem dX8_init_287 : decode cX8_init 287 = .ok (.iconst 4, 1) := by decide +kernel
theorem dX8_init_288 : decode cX8_init 288 = .ok (.if_icmp .ge 16, 3) := by decide +kernel
theorem dX8_init_291 : decode cX8_init 291 = .ok (.aload_n 0, 1) := by decide +kernel
theorem dX8_init_292 : decode cX8_init 292 = .ok (.getfield 22, 3) := by decide +kernel
theorem dX8_init_295 : decode cX8_init 295 = .ok (.iload_n 1, 1) := by decide +kernel
theorem dX8_init_296 : decode cX8_init 296 = .ok (.iconst (-1), 1) := by decide +kernel
theorem dX8_init_297 : decode cX8_init 297 = .ok (.iastore, 1) := by decide +kernel
theorem dX8_init_298 : decode cX8_init 298 = .ok (.iinc 1 1, 3) := by decide +kernel
theorem dX8_init_301 : decode cX8_init 301 = .ok (.goto (-15), 3) := by decide +kernel
theorem dX8_init_304 : decode cX8_init 304 = .ok (.return_, 1) := by decide +kernel
theorem dX8_in_0 : decode cX8_in 0 = .ok (.iload_n 0, 1) := by decide +kernel
theorem dX8_in_1 : decode cX8_in 1 = .ok (.iload_n 1, 1) := by decide +kernel
theorem dX8_in_2 : decode cX8_in 2 = .ok (.if_icmp .lt 12, 3) := by decide +kernel
theorem dX8_in_5 : decode cX8_in 5 = .ok (.iload_n 0, 1) := by decide +kernel
theorem dX8_in_6 : decode cX8_in 6 = .ok (.iload_n 2, 1) := by decide +kernel
theorem dX8_in_7 : decode cX8_in 7 = .ok (.if_icmp .gt 7, 3) := by decide +kernel
theorem dX8_in_10 : decode cX8_in 10 = .ok (.iconst 1, 1) := by decide +kernel
theorem dX8_in_11 : decode cX8_in 11 = .ok (.goto 4, 3) := by decide +kernel
theorem dX8_in_14 : decode cX8_in 14 = .ok (.iconst 0, 1) := by decide +kernel
theorem dX8_in_15 : decode cX8_in 15 = .ok (.ireturn, 1) := by decide +kernel
theorem dX8_has_0 : decode cX8_has 0 = .ok (.iload_n 0, 1) := by decide +kernel
theorem dX8_has_1 : decode cX8_has 1 = .ok (.iload_n 1, 1) := by decide +kernel
theorem dX8_has_2 : decode cX8_has 2 = .ok (.ishr, 1) := by decide +kernel
theorem dX8_has_3 : decode cX8_has 3 = .ok (.iconst 1, 1) := by decide +kernel
theorem dX8_has_4 : decode cX8_has 4 = .ok (.iand, 1) := by decide +kernel
theorem dX8_has_5 : decode cX8_has 5 = .ok (.iconst 1, 1) := by decide +kernel
theorem dX8_has_6 : decode cX8_has 6 = .ok (.if_icmp .ne 7, 3) := by decide +kernel
theorem dX8_has_9 : decode cX8_has 9 = .ok (.iconst 1, 1) := by decide +kernel
theorem dX8_has_10 : decode cX8_has 10 = .ok (.goto 4, 3) := by decide +kernel
theorem dX8_has_13 : decode cX8_has 13 = .ok (.iconst 0, 1) := by decide +kernel
theorem dX8_has_14 : decode cX8_has 14 = .ok (.ireturn, 1) := by decide +kernel
theorem dX8_bits_0 : decode cX8_bits 0 = .ok (.iconst 0, 1) := by decide +kernel
theorem dX8_bits_1 : decode cX8_bits 1 = .ok (.istore_n 1, 1) := by decide +kernel
theorem dX8_bits_2 : decode cX8_bits 2 = .ok (.iload_n 0, 1) := by decide +kernel
theorem dX8_bits_3 : decode cX8_bits 3 = .ok (.istore_n 2, 1) := by decide +kernel
theorem dX8_bits_4 : decode cX8_bits 4 = .ok (.iload_n 2, 1) := by decide +kernel
theorem dX8_bits_5 : decode cX8_bits 5 = .ok (.ifCond .eq 15, 3) := by decide +kernel
theorem dX8_bits_8 : decode cX8_bits 8 = .ok (.iinc 1 1, 3) := by decide +kernel
theorem dX8_bits_11 : decode cX8_bits 11 = .ok (.iload_n 2, 1) := by decide +kernel
theorem dX8_bits_12 : decode cX8_bits 12 = .ok (.iload_n 2, 1) := by decide +kernel
theorem dX8_bits_13 : decode cX8_bits 13 = .ok (.iconst 1, 1) := by decide +kernel
theorem dX8_bits_14 : decode cX8_bits 14 = .ok (.isub, 1) := by decide +kernel
theorem dX8_bits_15 : decode cX8_bits 15 = .ok (.iand, 1) := by decide +kernel
theorem dX8_bits_16 : decode cX8_bits 16 = .ok (.istore_n 2, 1) := by decide +kernel
theorem dX8_bits_17 : decode cX8_bits 17 = .ok (.goto (-13), 3) := by decide +kernel
theorem dX8_bits_20 : decode cX8_bits 20 = .ok (.iload_n 1, 1) := by decide +kernel
theorem dX8_bits_21 : decode cX8_bits 21 = .ok (.ireturn, 1) := by decide +kernel
theorem dX8_meets_0 : decode cX8_meets 0 = .ok (.aload_n 0, 1) := by decide +kernel
theorem dX8_meets_1 : decode cX8_meets 1 = .ok (.iload_n 1, 1) := by decide +kernel
theorem dX8_meets_2 : decode cX8_meets 2 = .ok (.putfield 108, 3) := by decide +kernel
theorem dX8_meets_5 : decode cX8_meets 5 = .ok (.aload_n 0, 1) := by decide +kernel
theorem dX8_meets_6 : decode cX8_meets 6 = .ok (.getfield 7, 3) := by decide +kernel
theorem dX8_meets_9 : decode cX8_meets 9 = .ok (.iload_n 1, 1) := by decide +kernel
theorem dX8_meets_10 : decode cX8_meets 10 = .ok (.dup2, 1) := by decide +kernel
theorem dX8_meets_11 : decode cX8_meets 11 = .ok (.iaload, 1) := by decide +kernel
theorem dX8_meets_12 : decode cX8_meets 12 = .ok (.iconst 1, 1) := by decide +kernel
theorem dX8_meets_13 : decode cX8_meets 13 = .ok (.iadd, 1) := by decide +kernel
theorem dX8_meets_14 : decode cX8_meets 14 = .ok (.iastore, 1) := by decide +kernel
theorem dX8_meets_15 : decode cX8_meets 15 = .ok (.bipush (-3), 2) := by decide +kernel
theorem dX8_meets_17 : decode cX8_meets 17 = .ok (.ireturn, 1) := by decide +kernel
theorem dX8_finding_0 : decode cX8_finding 0 = .ok (.aload_n 0, 1) := by decide +kernel
theorem dX8_finding_1 : decode cX8_finding 1 = .ok (.getfield 108, 3) := by decide +kernel
theorem dX8_finding_4 : decode cX8_finding 4 = .ok (.ireturn, 1) := by decide +kernel
theorem dX8_findings_0 : decode cX8_findings 0 = .ok (.iload_n 1, 1) := by decide +kernel
theorem dX8_findings_1 : decode cX8_findings 1 = .ok (.iconst 1, 1) := by decide +kernel
theorem dX8_findings_2 : decode cX8_findings 2 = .ok (.iconst 5, 1) := by decide +kernel
theorem dX8_findings_3 : decode cX8_findings 3 = .ok (.invokestatic 112, 3) := by decide +kernel
theorem dX8_findings_6 : decode cX8_findings 6 = .ok (.ifCond .eq 12, 3) := by decide +kernel
theorem dX8_findings_9 : decode cX8_findings 9 = .ok (.aload_n 0, 1) := by decide +kernel
theorem dX8_findings_10 : decode cX8_findings 10 = .ok (.getfield 7, 3) := by decide +kernel
theorem dX8_findings_13 : decode cX8_findings 13 = .ok (.iload_n 1, 1) := by decide +kernel
theorem dX8_findings_14 : decode cX8_findings 14 = .ok (.iaload, 1) := by decide +kernel
theorem dX8_findings_15 : decode cX8_findings 15 = .ok (.goto 4, 3) := by decide +kernel
theorem dX8_findings_18 : decode cX8_findings 18 = .ok (.iconst (-1), 1) := by decide +kernel
theorem dX8_findings_19 : decode cX8_findings 19 = .ok (.ireturn, 1) := by decide +kernel
theorem dX8_tells_0 : decode cX8_tells 0 = .ok (.aload_n 0, 1) := by decide +kernel
theorem dX8_tells_1 : decode cX8_tells 1 = .ok (.iload_n 1, 1) := by decide +kernel
theorem dX8_tells_2 : decode cX8_tells 2 = .ok (.putfield 116, 3) := by decide +kernel
theorem dX8_tells_5 : decode cX8_tells 5 = .ok (.iload_n 2, 1) := by decide +kernel
theorem dX8_tells_6 : decode cX8_tells 6 = .ok (.ireturn, 1) := by decide +kernel
theorem dX8_asked_0 : decode cX8_asked 0 = .ok (.aload_n 0, 1) := by decide +kernel
theorem dX8_asked_1 : decode cX8_asked 1 = .ok (.getfield 116, 3) := by decide +kernel
theorem dX8_asked_4 : decode cX8_asked 4 = .ok (.ireturn, 1) := by decide +kernel
theorem dX8_fraction_0 : decode cX8_fraction 0 = .ok (.lload_n 1, 1) := by decide +kernel
theorem dX8_fraction_1 : decode cX8_fraction 1 = .ok (.lstore 6, 2) := by decide +kernel
theorem dX8_fraction_3 : decode cX8_fraction 3 = .ok (.lload_n 3, 1) := by decide +kernel
theorem dX8_fraction_4 : decode cX8_fraction 4 = .ok (.lstore 8, 2) := by decide +kernel
theorem dX8_fraction_6 : decode cX8_fraction 6 = .ok (.lload 8, 2) := by decide +kernel
theorem dX8_fraction_8 : decode cX8_fraction 8 = .ok (.lconst 0, 1) := by decide +kernel
theorem dX8_fraction_9 : decode cX8_fraction 9 = .ok (.lcmp, 1) := by decide +kernel
theorem dX8_fraction_10 : decode cX8_fraction 10 = .ok (.ifCond .eq 21, 3) := by decide +kernel
theorem dX8_fraction_13 : decode cX8_fraction 13 = .ok (.lload 6, 2) := by decide +kernel
theorem dX8_fraction_15 : decode cX8_fraction 15 = .ok (.lload 8, 2) := by decide +kernel
theorem dX8_fraction_17 : decode cX8_fraction 17 = .ok (.lrem, 1) := by decide +kernel
theorem dX8_fraction_18 : decode cX8_fraction 18 = .ok (.lstore 10, 2) := by decide +kernel
theorem dX8_fraction_20 : decode cX8_fraction 20 = .ok (.lload 8, 2) := by decide +kernel
theorem dX8_fraction_22 : decode cX8_fraction 22 = .ok (.lstore 6, 2) := by decide +kernel
theorem dX8_fraction_24 : decode cX8_fraction 24 = .ok (.lload 10, 2) := by decide +kernel
theorem dX8_fraction_26 : decode cX8_fraction 26 = .ok (.lstore 8, 2) := by decide +kernel
theorem dX8_fraction_28 : decode cX8_fraction 28 = .ok (.goto (-22), 3) := by decide +kernel
theorem dX8_fraction_31 : decode cX8_fraction 31 = .ok (.aload_n 0, 1) := by decide +kernel
theorem dX8_fraction_32 : decode cX8_fraction 32 = .ok (.lload_n 1, 1) := by decide +kernel
theorem dX8_fraction_33 : decode cX8_fraction 33 = .ok (.lload 6, 2) := by decide +kernel
theorem dX8_fraction_35 : decode cX8_fraction 35 = .ok (.ldiv, 1) := by decide +kernel
theorem dX8_fraction_36 : decode cX8_fraction 36 = .ok (.putfield 119, 3) := by decide +kernel
theorem dX8_fraction_39 : decode cX8_fraction 39 = .ok (.aload_n 0, 1) := by decide +kernel
theorem dX8_fraction_40 : decode cX8_fraction 40 = .ok (.lload_n 3, 1) := by decide +kernel
theorem dX8_fraction_41 : decode cX8_fraction 41 = .ok (.lload 6, 2) := by decide +kernel
theorem dX8_fraction_43 : decode cX8_fraction 43 = .ok (.ldiv, 1) := by decide +kernel
theorem dX8_fraction_44 : decode cX8_fraction 44 = .ok (.putfield 104, 3) := by decide +kernel
theorem dX8_fraction_47 : decode cX8_fraction 47 = .ok (.iload 5, 2) := by decide +kernel
theorem dX8_fraction_49 : decode cX8_fraction 49 = .ok (.ireturn, 1) := by decide +kernel
theorem dX8_upper_0 : decode cX8_upper 0 = .ok (.aload_n 0, 1) := by decide +kernel
theorem dX8_upper_1 : decode cX8_upper 1 = .ok (.getfield 119, 3) := by decide +kernel
theorem dX8_upper_4 : decode cX8_upper 4 = .ok (.lreturn, 1) := by decide +kernel
theorem dX8_lower_0 : decode cX8_lower 0 = .ok (.aload_n 0, 1) := by decide +kernel
theorem dX8_lower_1 : decode cX8_lower 1 = .ok (.getfield 104, 3) := by decide +kernel
theorem dX8_lower_4 : decode cX8_lower 4 = .ok (.lreturn, 1) := by decide +kernel
theorem dX8_isRow_0 : decode cX8_isRow 0 = .ok (.iload_n 0, 1) := by decide +kernel
theorem dX8_isRow_1 : decode cX8_isRow 1 = .ok (.iconst 0, 1) := by decide +kernel
theorem dX8_isRow_2 : decode cX8_isRow 2 = .ok (.iconst 5, 1) := by decide +kernel
theorem dX8_isRow_3 : decode cX8_isRow 3 = .ok (.invokestatic 112, 3) := by decide +kernel
theorem dX8_isRow_6 : decode cX8_isRow 6 = .ok (.ireturn, 1) := by decide +kernel
theorem dX8_rowAt_0 : decode cX8_rowAt 0 = .ok (.aload_n 0, 1) := by decide +kernel
theorem dX8_rowAt_1 : decode cX8_rowAt 1 = .ok (.getfield 16, 3) := by decide +kernel
theorem dX8_rowAt_4 : decode cX8_rowAt 4 = .ok (.bipush 40, 2) := by decide +kernel
theorem dX8_rowAt_6 : decode cX8_rowAt 6 = .ok (.iload_n 1, 1) := by decide +kernel
theorem dX8_rowAt_7 : decode cX8_rowAt 7 = .ok (.imul, 1) := by decide +kernel
theorem dX8_rowAt_8 : decode cX8_rowAt 8 = .ok (.iload_n 2, 1) := by decide +kernel
theorem dX8_rowAt_9 : decode cX8_rowAt 9 = .ok (.iadd, 1) := by decide +kernel
theorem dX8_rowAt_10 : decode cX8_rowAt 10 = .ok (.iaload, 1) := by decide +kernel
theorem dX8_rowAt_11 : decode cX8_rowAt 11 = .ok (.ireturn, 1) := by decide +kernel
theorem dX8_row_0 : decode cX8_row 0 = .ok (.iload_n 1, 1) := by decide +kernel
theorem dX8_row_1 : decode cX8_row 1 = .ok (.invokestatic 122, 3) := by decide +kernel
theorem dX8_row_4 : decode cX8_row 4 = .ok (.ifCond .eq 9, 3) := by decide +kernel
theorem dX8_row_7 : decode cX8_row 7 = .ok (.iload_n 2, 1) := by decide +kernel
theorem dX8_row_8 : decode cX8_row 8 = .ok (.bipush 40, 2) := by decide +kernel
theorem dX8_row_10 : decode cX8_row 10 = .ok (.if_icmp .le 5, 3) := by decide +kernel
theorem dX8_row_13 : decode cX8_row 13 = .ok (.iconst (-1), 1) := by decide +kernel
theorem dX8_row_14 : decode cX8_row 14 = .ok (.ireturn, 1) := by decide +kernel
theorem dX8_row_15 : decode cX8_row 15 = .ok (.iload_n 2, 1) := by decide +kernel
theorem dX8_row_16 : decode cX8_row 16 = .ok (.ifCond .ge 9, 3) := by decide +kernel
theorem dX8_row_19 : decode cX8_row 19 = .ok (.aload_n 0, 1) := by decide +kernel
theorem dX8_row_20 : decode cX8_row 20 = .ok (.iconst 5, 1) := by decide +kernel
theorem dX8_row_21 : decode cX8_row 21 = .ok (.invokevirtual 126, 3) := by decide +kernel
theorem dX8_row_24 : decode cX8_row 24 = .ok (.ireturn, 1) := by decide +kernel
theorem dX8_row_25 : decode cX8_row 25 = .ok (.aload_n 0, 1) := by decide +kernel
theorem dX8_row_26 : decode cX8_row 26 = .ok (.getfield 13, 3) := by decide +kernel
theorem dX8_row_29 : decode cX8_row 29 = .ok (.iload_n 1, 1) := by decide +kernel
theorem dX8_row_30 : decode cX8_row 30 = .ok (.iload_n 2, 1) := by decide +kernel
theorem dX8_row_31 : decode cX8_row 31 = .ok (.iastore, 1) := by decide +kernel
theorem dX8_row_32 : decode cX8_row 32 = .ok (.iconst 0, 1) := by decide +kernel
theorem dX8_row_33 : decode cX8_row 33 = .ok (.istore_n 3, 1) := by decide +kernel
theorem dX8_row_34 : decode cX8_row 34 = .ok (.iload_n 3, 1) := by decide +kernel
theorem dX8_row_35 : decode cX8_row 35 = .ok (.bipush 40, 2) := by decide +kernel
theorem dX8_row_37 : decode cX8_row 37 = .ok (.if_icmp .ge 21, 3) := by decide +kernel
theorem dX8_row_40 : decode cX8_row 40 = .ok (.aload_n 0, 1) := by decide +kernel
theorem dX8_row_41 : decode cX8_row 41 = .ok (.getfield 16, 3) := by decide +kernel
theorem dX8_row_44 : decode cX8_row 44 = .ok (.bipush 40, 2) := by decide +kernel
theorem dX8_row_46 : decode cX8_row 46 = .ok (.iload_n 1, 1) := by decide +kernel
theorem dX8_row_47 : decode cX8_row 47 = .ok (.imul, 1) := by decide +kernel
theorem dX8_row_48 : decode cX8_row 48 = .ok (.iload_n 3, 1) := by decide +kernel
theorem dX8_row_49 : decode cX8_row 49 = .ok (.iadd, 1) := by decide +kernel
theorem dX8_row_50 : decode cX8_row 50 = .ok (.iconst 0, 1) := by decide +kernel
theorem dX8_row_51 : decode cX8_row 51 = .ok (.iastore, 1) := by decide +kernel
theorem dX8_row_52 : decode cX8_row 52 = .ok (.iinc 3 1, 3) := by decide +kernel
theorem dX8_row_55 : decode cX8_row 55 = .ok (.goto (-21), 3) := by decide +kernel
theorem dX8_row_58 : decode cX8_row 58 = .ok (.iload_n 2, 1) := by decide +kernel
theorem dX8_row_59 : decode cX8_row 59 = .ok (.ireturn, 1) := by decide +kernel
theorem dX8_lay_0 : decode cX8_lay 0 = .ok (.iload_n 1, 1) := by decide +kernel
theorem dX8_lay_1 : decode cX8_lay 1 = .ok (.invokestatic 122, 3) := by decide +kernel
theorem dX8_lay_4 : decode cX8_lay 4 = .ok (.ifCond .ne 5, 3) := by decide +kernel
theorem dX8_lay_7 : decode cX8_lay 7 = .ok (.iconst (-1), 1) := by decide +kernel
theorem dX8_lay_8 : decode cX8_lay 8 = .ok (.ireturn, 1) := by decide +kernel
theorem dX8_lay_9 : decode cX8_lay 9 = .ok (.aload_n 0, 1) := by decide +kernel
theorem dX8_lay_10 : decode cX8_lay 10 = .ok (.getfield 13, 3) := by decide +kernel
theorem dX8_lay_13 : decode cX8_lay 13 = .ok (.iload_n 1, 1) := by decide +kernel
theorem dX8_lay_14 : decode cX8_lay 14 = .ok (.iaload, 1) := by decide +kernel
theorem dX8_lay_15 : decode cX8_lay 15 = .ok (.ifCond .ge 9, 3) := by decide +kernel
theorem dX8_lay_18 : decode cX8_lay 18 = .ok (.aload_n 0, 1) := by decide +kernel
theorem dX8_lay_19 : decode cX8_lay 19 = .ok (.iconst 1, 1) := by decide +kernel
theorem dX8_lay_20 : decode cX8_lay 20 = .ok (.invokevirtual 126, 3) := by decide +kernel
theorem dX8_lay_23 : decode cX8_lay 23 = .ok (.ireturn, 1) := by decide +kernel
theorem dX8_lay_24 : decode cX8_lay 24 = .ok (.iload_n 2, 1) := by decide +kernel
theorem dX8_lay_25 : decode cX8_lay 25 = .ok (.iconst 0, 1) := by decide +kernel
theorem dX8_lay_26 : decode cX8_lay 26 = .ok (.aload_n 0, 1) := by decide +kernel
theorem dX8_lay_27 : decode cX8_lay 27 = .ok (.getfield 13, 3) := by decide +kernel
theorem dX8_lay_30 : decode cX8_lay 30 = .ok (.iload_n 1, 1) := by decide +kernel
theorem dX8_lay_31 : decode cX8_lay 31 = .ok (.iaload, 1) := by decide +kernel
theorem dX8_lay_32 : decode cX8_lay 32 = .ok (.iconst 1, 1) := by decide +kernel
theorem dX8_lay_33 : decode cX8_lay 33 = .ok (.isub, 1) := by decide +kernel
theorem dX8_lay_34 : decode cX8_lay 34 = .ok (.invokestatic 112, 3) := by decide +kernel
theorem dX8_lay_37 : decode cX8_lay 37 = .ok (.ifCond .ne 9, 3) := by decide +kernel
theorem dX8_lay_40 : decode cX8_lay 40 = .ok (.aload_n 0, 1) := by decide +kernel
theorem dX8_lay_41 : decode cX8_lay 41 = .ok (.iconst 2, 1) := by decide +kernel
theorem dX8_lay_42 : decode cX8_lay 42 = .ok (.invokevirtual 126, 3) := by decide +kernel
theorem dX8_lay_45 : decode cX8_lay 45 = .ok (.ireturn, 1) := by decide +kernel
theorem dX8_lay_46 : decode cX8_lay 46 = .ok (.aload_n 0, 1) := by decide +kernel
theorem dX8_lay_47 : decode cX8_lay 47 = .ok (.iload_n 1, 1) := by decide +kernel
theorem dX8_lay_48 : decode cX8_lay 48 = .ok (.iload_n 2, 1) := by decide +kernel
theorem dX8_lay_49 : decode cX8_lay 49 = .ok (.invokevirtual 130, 3) := by decide +kernel
theorem dX8_lay_52 : decode cX8_lay 52 = .ok (.istore 4, 2) := by decide +kernel
theorem dX8_lay_54 : decode cX8_lay 54 = .ok (.aload_n 0, 1) := by decide +kernel
theorem dX8_lay_55 : decode cX8_lay 55 = .ok (.getfield 16, 3) := by decide +kernel
theorem dX8_lay_58 : decode cX8_lay 58 = .ok (.bipush 40, 2) := by decide +kernel
theorem dX8_lay_60 : decode cX8_lay 60 = .ok (.iload_n 1, 1) := by decide +kernel
theorem dX8_lay_61 : decode cX8_lay 61 = .ok (.imul, 1) := by decide +kernel
theorem dX8_lay_62 : decode cX8_lay 62 = .ok (.iload_n 2, 1) := by decide +kernel
theorem dX8_lay_63 : decode cX8_lay 63 = .ok (.iadd, 1) := by decide +kernel
theorem dX8_lay_64 : decode cX8_lay 64 = .ok (.iload_n 3, 1) := by decide +kernel
theorem dX8_lay_65 : decode cX8_lay 65 = .ok (.iastore, 1) := by decide +kernel
theorem dX8_lay_66 : decode cX8_lay 66 = .ok (.aload_n 0, 1) := by decide +kernel
theorem dX8_lay_67 : decode cX8_lay 67 = .ok (.iload 4, 2) := by decide +kernel
theorem dX8_lay_69 : decode cX8_lay 69 = .ok (.iconst 1, 1) := by decide +kernel
theorem dX8_lay_70 : decode cX8_lay 70 = .ok (.invokevirtual 134, 3) := by decide +kernel
theorem dX8_lay_73 : decode cX8_lay 73 = .ok (.ireturn, 1) := by decide +kernel
theorem dX8_at_0 : decode cX8_at 0 = .ok (.iload_n 1, 1) := by decide +kernel
theorem dX8_at_1 : decode cX8_at 1 = .ok (.invokestatic 122, 3) := by decide +kernel
theorem dX8_at_4 : decode cX8_at 4 = .ok (.ifCond .ne 5, 3) := by decide +kernel
theorem dX8_at_7 : decode cX8_at 7 = .ok (.iconst (-1), 1) := by decide +kernel
theorem dX8_at_8 : decode cX8_at 8 = .ok (.ireturn, 1) := by decide +kernel
theorem dX8_at_9 : decode cX8_at 9 = .ok (.aload_n 0, 1) := by decide +kernel
theorem dX8_at_10 : decode cX8_at 10 = .ok (.getfield 13, 3) := by decide +kernel
theorem dX8_at_13 : decode cX8_at 13 = .ok (.iload_n 1, 1) := by decide +kernel
theorem dX8_at_14 : decode cX8_at 14 = .ok (.iaload, 1) := by decide +kernel
theorem dX8_at_15 : decode cX8_at 15 = .ok (.ifCond .ge 9, 3) := by decide +kernel
theorem dX8_at_18 : decode cX8_at 18 = .ok (.aload_n 0, 1) := by decide +kernel
theorem dX8_at_19 : decode cX8_at 19 = .ok (.iconst 1, 1) := by decide +kernel
theorem dX8_at_20 : decode cX8_at 20 = .ok (.invokevirtual 126, 3) := by decide +kernel
theorem dX8_at_23 : decode cX8_at 23 = .ok (.ireturn, 1) := by decide +kernel
theorem dX8_at_24 : decode cX8_at 24 = .ok (.iload_n 2, 1) := by decide +kernel
theorem dX8_at_25 : decode cX8_at 25 = .ok (.iconst 0, 1) := by decide +kernel
theorem dX8_at_26 : decode cX8_at 26 = .ok (.aload_n 0, 1) := by decide +kernel
theorem dX8_at_27 : decode cX8_at 27 = .ok (.getfield 13, 3) := by decide +kernel
theorem dX8_at_30 : decode cX8_at 30 = .ok (.iload_n 1, 1) := by decide +kernel
theorem dX8_at_31 : decode cX8_at 31 = .ok (.iaload, 1) := by decide +kernel
theorem dX8_at_32 : decode cX8_at 32 = .ok (.iconst 1, 1) := by decide +kernel
theorem dX8_at_33 : decode cX8_at 33 = .ok (.isub, 1) := by decide +kernel
theorem dX8_at_34 : decode cX8_at 34 = .ok (.invokestatic 112, 3) := by decide +kernel
theorem dX8_at_37 : decode cX8_at 37 = .ok (.ifCond .eq 17, 3) := by decide +kernel
theorem dX8_at_40 : decode cX8_at 40 = .ok (.aload_n 0, 1) := by decide +kernel
theorem dX8_at_41 : decode cX8_at 41 = .ok (.aload_n 0, 1) := by decide +kernel
theorem dX8_at_42 : decode cX8_at 42 = .ok (.iload_n 1, 1) := by decide +kernel
theorem dX8_at_43 : decode cX8_at 43 = .ok (.iload_n 2, 1) := by decide +kernel
theorem dX8_at_44 : decode cX8_at 44 = .ok (.invokevirtual 130, 3) := by decide +kernel
theorem dX8_at_47 : decode cX8_at 47 = .ok (.iconst 1, 1) := by decide +kernel
theorem dX8_at_48 : decode cX8_at 48 = .ok (.invokevirtual 134, 3) := by decide +kernel
theorem dX8_at_51 : decode cX8_at 51 = .ok (.goto 8, 3) := by decide +kernel
theorem dX8_at_54 : decode cX8_at 54 = .ok (.aload_n 0, 1) := by decide +kernel
theorem dX8_at_55 : decode cX8_at 55 = .ok (.iconst 2, 1) := by decide +kernel
theorem dX8_at_56 : decode cX8_at 56 = .ok (.invokevirtual 126, 3) := by decide +kernel
theorem dX8_at_59 : decode cX8_at 59 = .ok (.ireturn, 1) := by decide +kernel
theorem dX8_tear_0 : decode cX8_tear 0 = .ok (.iload_n 1, 1) := by decide +kernel
theorem dX8_tear_1 : decode cX8_tear 1 = .ok (.invokestatic 122, 3) := by decide +kernel
theorem dX8_tear_4 : decode cX8_tear 4 = .ok (.ifCond .ne 5, 3) := by decide +kernel
theorem dX8_tear_7 : decode cX8_tear 7 = .ok (.iconst (-1), 1) := by decide +kernel
theorem dX8_tear_8 : decode cX8_tear 8 = .ok (.ireturn, 1) := by decide +kernel
theorem dX8_tear_9 : decode cX8_tear 9 = .ok (.aload_n 0, 1) := by decide +kernel
theorem dX8_tear_10 : decode cX8_tear 10 = .ok (.getfield 13, 3) := by decide +kernel
theorem dX8_tear_13 : decode cX8_tear 13 = .ok (.iload_n 1, 1) := by decide +kernel
theorem dX8_tear_14 : decode cX8_tear 14 = .ok (.iaload, 1) := by decide +kernel
theorem dX8_tear_15 : decode cX8_tear 15 = .ok (.ifCond .ge 9, 3) := by decide +kernel
theorem dX8_tear_18 : decode cX8_tear 18 = .ok (.aload_n 0, 1) := by decide +kernel
theorem dX8_tear_19 : decode cX8_tear 19 = .ok (.iconst 1, 1) := by decide +kernel
theorem dX8_tear_20 : decode cX8_tear 20 = .ok (.invokevirtual 126, 3) := by decide +kernel
theorem dX8_tear_23 : decode cX8_tear 23 = .ok (.ireturn, 1) := by decide +kernel
theorem dX8_tear_24 : decode cX8_tear 24 = .ok (.aload_n 0, 1) := by decide +kernel
theorem dX8_tear_25 : decode cX8_tear 25 = .ok (.getfield 13, 3) := by decide +kernel
theorem dX8_tear_28 : decode cX8_tear 28 = .ok (.iload_n 1, 1) := by decide +kernel
theorem dX8_tear_29 : decode cX8_tear 29 = .ok (.iconst (-1), 1) := by decide +kernel
theorem dX8_tear_30 : decode cX8_tear 30 = .ok (.iastore, 1) := by decide +kernel
theorem dX8_tear_31 : decode cX8_tear 31 = .ok (.iconst 1, 1) := by decide +kernel
theorem dX8_tear_32 : decode cX8_tear 32 = .ok (.ireturn, 1) := by decide +kernel
theorem dX8_copy_0 : decode cX8_copy 0 = .ok (.iload_n 1, 1) := by decide +kernel
theorem dX8_copy_1 : decode cX8_copy 1 = .ok (.invokestatic 122, 3) := by decide +kernel
theorem dX8_copy_4 : decode cX8_copy 4 = .ok (.ifCond .eq 10, 3) := by decide +kernel
theorem dX8_copy_7 : decode cX8_copy 7 = .ok (.iload_n 3, 1) := by decide +kernel
theorem dX8_copy_8 : decode cX8_copy 8 = .ok (.invokestatic 122, 3) := by decide +kernel
theorem dX8_copy_11 : decode cX8_copy 11 = .ok (.ifCond .ne 5, 3) := by decide +kernel
theorem dX8_copy_14 : decode cX8_copy 14 = .ok (.iconst (-1), 1) := by decide +kernel
theorem dX8_copy_15 : decode cX8_copy 15 = .ok (.ireturn, 1) := by decide +kernel
theorem dX8_copy_16 : decode cX8_copy 16 = .ok (.iload 5, 2) := by decide +kernel
theorem dX8_copy_18 : decode cX8_copy 18 = .ok (.ifCond .ge 9, 3) := by decide +kernel
theorem dX8_copy_21 : decode cX8_copy 21 = .ok (.aload_n 0, 1) := by decide +kernel
theorem dX8_copy_22 : decode cX8_copy 22 = .ok (.iconst 5, 1) := by decide +kernel
theorem dX8_copy_23 : decode cX8_copy 23 = .ok (.invokevirtual 126, 3) := by decide +kernel
theorem dX8_copy_26 : decode cX8_copy 26 = .ok (.ireturn, 1) := by decide +kernel
theorem dX8_copy_27 : decode cX8_copy 27 = .ok (.aload_n 0, 1) := by decide +kernel
theorem dX8_copy_28 : decode cX8_copy 28 = .ok (.getfield 13, 3) := by decide +kernel
theorem dX8_copy_31 : decode cX8_copy 31 = .ok (.iload_n 1, 1) := by decide +kernel
theorem dX8_copy_32 : decode cX8_copy 32 = .ok (.iaload, 1) := by decide +kernel
theorem dX8_copy_33 : decode cX8_copy 33 = .ok (.ifCond .lt 12, 3) := by decide +kernel
theorem dX8_copy_36 : decode cX8_copy 36 = .ok (.aload_n 0, 1) := by decide +kernel
theorem dX8_copy_37 : decode cX8_copy 37 = .ok (.getfield 13, 3) := by decide +kernel
theorem dX8_copy_40 : decode cX8_copy 40 = .ok (.iload_n 3, 1) := by decide +kernel
theorem dX8_copy_41 : decode cX8_copy 41 = .ok (.iaload, 1) := by decide +kernel
theorem dX8_copy_42 : decode cX8_copy 42 = .ok (.ifCond .ge 9, 3) := by decide +kernel
theorem dX8_copy_45 : decode cX8_copy 45 = .ok (.aload_n 0, 1) := by decide +kernel
theorem dX8_copy_46 : decode cX8_copy 46 = .ok (.iconst 1, 1) := by decide +kernel
theorem dX8_copy_47 : decode cX8_copy 47 = .ok (.invokevirtual 126, 3) := by decide +kernel
theorem dX8_copy_50 : decode cX8_copy 50 = .ok (.ireturn, 1) := by decide +kernel
theorem dX8_copy_51 : decode cX8_copy 51 = .ok (.iload_n 2, 1) := by decide +kernel
theorem dX8_copy_52 : decode cX8_copy 52 = .ok (.ifCond .lt 43, 3) := by decide +kernel
theorem dX8_copy_55 : decode cX8_copy 55 = .ok (.iload 4, 2) := by decide +kernel
theorem dX8_copy_57 : decode cX8_copy 57 = .ok (.ifCond .lt 38, 3) := by decide +kernel
theorem dX8_copy_60 : decode cX8_copy 60 = .ok (.iload_n 2, 1) := by decide +kernel
theorem dX8_copy_61 : decode cX8_copy 61 = .ok (.i2l, 1) := by decide +kernel
theorem dX8_copy_62 : decode cX8_copy 62 = .ok (.iload 5, 2) := by decide +kernel
theorem dX8_copy_64 : decode cX8_copy 64 = .ok (.i2l, 1) := by decide +kernel
theorem dX8_copy_65 : decode cX8_copy 65 = .ok (.ladd, 1) := by decide +kernel
theorem dX8_copy_66 : decode cX8_copy 66 = .ok (.aload_n 0, 1) := by decide +kernel
theorem dX8_copy_67 : decode cX8_copy 67 = .ok (.getfield 13, 3) := by decide +kernel
theorem dX8_copy_70 : decode cX8_copy 70 = .ok (.iload_n 1, 1) := by decide +kernel
theorem dX8_copy_71 : decode cX8_copy 71 = .ok (.iaload, 1) := by decide +kernel
theorem dX8_copy_72 : decode cX8_copy 72 = .ok (.i2l, 1) := by decide +kernel
theorem dX8_copy_73 : decode cX8_copy 73 = .ok (.lcmp, 1) := by decide +kernel
theorem dX8_copy_74 : decode cX8_copy 74 = .ok (.ifCond .gt 21, 3) := by decide +kernel
theorem dX8_copy_77 : decode cX8_copy 77 = .ok (.iload 4, 2) := by decide +kernel
theorem dX8_copy_79 : decode cX8_copy 79 = .ok (.i2l, 1) := by decide +kernel
theorem dX8_copy_80 : decode cX8_copy 80 = .ok (.iload 5, 2) := by decide +kernel
theorem dX8_copy_82 : decode cX8_copy 82 = .ok (.i2l, 1) := by decide +kernel
theorem dX8_copy_83 : decode cX8_copy 83 = .ok (.ladd, 1) := by decide +kernel
theorem dX8_copy_84 : decode cX8_copy 84 = .ok (.aload_n 0, 1) := by decide +kernel
theorem dX8_copy_85 : decode cX8_copy 85 = .ok (.getfield 13, 3) := by decide +kernel
theorem dX8_copy_88 : decode cX8_copy 88 = .ok (.iload_n 3, 1) := by decide +kernel
theorem dX8_copy_89 : decode cX8_copy 89 = .ok (.iaload, 1) := by decide +kernel
theorem dX8_copy_90 : decode cX8_copy 90 = .ok (.i2l, 1) := by decide +kernel
theorem dX8_copy_91 : decode cX8_copy 91 = .ok (.lcmp, 1) := by decide +kernel
theorem dX8_copy_92 : decode cX8_copy 92 = .ok (.ifCond .le 9, 3) := by decide +kernel
theorem dX8_copy_95 : decode cX8_copy 95 = .ok (.aload_n 0, 1) := by decide +kernel
theorem dX8_copy_96 : decode cX8_copy 96 = .ok (.iconst 2, 1) := by decide +kernel
theorem dX8_copy_97 : decode cX8_copy 97 = .ok (.invokevirtual 126, 3) := by decide +kernel
theorem dX8_copy_100 : decode cX8_copy 100 = .ok (.ireturn, 1) := by decide +kernel
theorem dX8_copy_101 : decode cX8_copy 101 = .ok (.iconst 0, 1) := by decide +kernel
theorem dX8_copy_102 : decode cX8_copy 102 = .ok (.istore 6, 2) := by decide +kernel
theorem dX8_copy_104 : decode cX8_copy 104 = .ok (.iload 6, 2) := by decide +kernel
theorem dX8_copy_106 : decode cX8_copy 106 = .ok (.iload 5, 2) := by decide +kernel
theorem dX8_copy_108 : decode cX8_copy 108 = .ok (.if_icmp .ge 25, 3) := by decide +kernel
theorem dX8_copy_111 : decode cX8_copy 111 = .ok (.aload_n 0, 1) := by decide +kernel
theorem dX8_copy_112 : decode cX8_copy 112 = .ok (.getfield 19, 3) := by decide +kernel
theorem dX8_copy_115 : decode cX8_copy 115 = .ok (.iload 6, 2) := by decide +kernel
theorem dX8_copy_117 : decode cX8_copy 117 = .ok (.aload_n 0, 1) := by decide +kernel
theorem dX8_copy_118 : decode cX8_copy 118 = .ok (.iload_n 1, 1) := by decide +kernel
theorem dX8_copy_119 : decode cX8_copy 119 = .ok (.iload_n 2, 1) := by decide +kernel
theorem dX8_copy_120 : decode cX8_copy 120 = .ok (.iload 6, 2) := by decide +kernel
theorem dX8_copy_122 : decode cX8_copy 122 = .ok (.iadd, 1) := by decide +kernel
theorem dX8_copy_123 : decode cX8_copy 123 = .ok (.invokevirtual 130, 3) := by decide +kernel
theorem dX8_copy_126 : decode cX8_copy 126 = .ok (.iastore, 1) := by decide +kernel
theorem dX8_copy_127 : decode cX8_copy 127 = .ok (.iinc 6 1, 3) := by decide +kernel
theorem dX8_copy_130 : decode cX8_copy 130 = .ok (.goto (-26), 3) := by decide +kernel
theorem dX8_copy_133 : decode cX8_copy 133 = .ok (.iconst 0, 1) := by decide +kernel
theorem dX8_copy_134 : decode cX8_copy 134 = .ok (.istore 6, 2) := by decide +kernel
theorem dX8_copy_136 : decode cX8_copy 136 = .ok (.iload 6, 2) := by decide +kernel
theorem dX8_copy_138 : decode cX8_copy 138 = .ok (.iload 5, 2) := by decide +kernel
theorem dX8_copy_140 : decode cX8_copy 140 = .ok (.if_icmp .ge 31, 3) := by decide +kernel
theorem dX8_copy_143 : decode cX8_copy 143 = .ok (.aload_n 0, 1) := by decide +kernel
theorem dX8_copy_144 : decode cX8_copy 144 = .ok (.getfield 16, 3) := by decide +kernel
theorem dX8_copy_147 : decode cX8_copy 147 = .ok (.bipush 40, 2) := by decide +kernel
theorem dX8_copy_149 : decode cX8_copy 149 = .ok (.iload_n 3, 1) := by decide +kernel
theorem dX8_copy_150 : decode cX8_copy 150 = .ok (.imul, 1) := by decide +kernel
theorem dX8_copy_151 : decode cX8_copy 151 = .ok (.iload 4, 2) := by decide +kernel
theorem dX8_copy_153 : decode cX8_copy 153 = .ok (.iadd, 1) := by decide +kernel
theorem dX8_copy_154 : decode cX8_copy 154 = .ok (.iload 6, 2) := by decide +kernel
theorem dX8_copy_156 : decode cX8_copy 156 = .ok (.iadd, 1) := by decide +kernel
theorem dX8_copy_157 : decode cX8_copy 157 = .ok (.aload_n 0, 1) := by decide +kernel
theorem dX8_copy_158 : decode cX8_copy 158 = .ok (.getfield 19, 3) := by decide +kernel
theorem dX8_copy_161 : decode cX8_copy 161 = .ok (.iload 6, 2) := by decide +kernel
theorem dX8_copy_163 : decode cX8_copy 163 = .ok (.iaload, 1) := by decide +kernel
theorem dX8_copy_164 : decode cX8_copy 164 = .ok (.iastore, 1) := by decide +kernel
theorem dX8_copy_165 : decode cX8_copy 165 = .ok (.iinc 6 1, 3) := by decide +kernel
theorem dX8_copy_168 : decode cX8_copy 168 = .ok (.goto (-32), 3) := by decide +kernel
theorem dX8_copy_171 : decode cX8_copy 171 = .ok (.iconst 1, 1) := by decide +kernel
theorem dX8_copy_172 : decode cX8_copy 172 = .ok (.ireturn, 1) := by decide +kernel
theorem dX8_mean_0 : decode cX8_mean 0 = .ok (.iload_n 1, 1) := by decide +kernel
theorem dX8_mean_1 : decode cX8_mean 1 = .ok (.invokestatic 122, 3) := by decide +kernel
theorem dX8_mean_4 : decode cX8_mean 4 = .ok (.ifCond .ne 5, 3) := by decide +kernel
theorem dX8_mean_7 : decode cX8_mean 7 = .ok (.iconst (-1), 1) := by decide +kernel
theorem dX8_mean_8 : decode cX8_mean 8 = .ok (.ireturn, 1) := by decide +kernel
theorem dX8_mean_9 : decode cX8_mean 9 = .ok (.aload_n 0, 1) := by decide +kernel
theorem dX8_mean_10 : decode cX8_mean 10 = .ok (.getfield 13, 3) := by decide +kernel
theorem dX8_mean_13 : decode cX8_mean 13 = .ok (.iload_n 1, 1) := by decide +kernel
theorem dX8_mean_14 : decode cX8_mean 14 = .ok (.iaload, 1) := by decide +kernel
theorem dX8_mean_15 : decode cX8_mean 15 = .ok (.ifCond .ge 9, 3) := by decide +kernel
theorem dX8_mean_18 : decode cX8_mean 18 = .ok (.aload_n 0, 1) := by decide +kernel
theorem dX8_mean_19 : decode cX8_mean 19 = .ok (.iconst 1, 1) := by decide +kernel
theorem dX8_mean_20 : decode cX8_mean 20 = .ok (.invokevirtual 126, 3) := by decide +kernel
theorem dX8_mean_23 : decode cX8_mean 23 = .ok (.ireturn, 1) := by decide +kernel
theorem dX8_mean_24 : decode cX8_mean 24 = .ok (.aload_n 0, 1) := by decide +kernel
theorem dX8_mean_25 : decode cX8_mean 25 = .ok (.getfield 13, 3) := by decide +kernel
theorem dX8_mean_28 : decode cX8_mean 28 = .ok (.iload_n 1, 1) := by decide +kernel
theorem dX8_mean_29 : decode cX8_mean 29 = .ok (.iaload, 1) := by decide +kernel
theorem dX8_mean_30 : decode cX8_mean 30 = .ok (.ifCond .ne 9, 3) := by decide +kernel
theorem dX8_mean_33 : decode cX8_mean 33 = .ok (.aload_n 0, 1) := by decide +kernel
theorem dX8_mean_34 : decode cX8_mean 34 = .ok (.iconst 4, 1) := by decide +kernel
theorem dX8_mean_35 : decode cX8_mean 35 = .ok (.invokevirtual 126, 3) := by decide +kernel
theorem dX8_mean_38 : decode cX8_mean 38 = .ok (.ireturn, 1) := by decide +kernel
theorem dX8_mean_39 : decode cX8_mean 39 = .ok (.lconst 0, 1) := by decide +kernel
theorem dX8_mean_40 : decode cX8_mean 40 = .ok (.lstore_n 2, 1) := by decide +kernel
theorem dX8_mean_41 : decode cX8_mean 41 = .ok (.iconst 0, 1) := by decide +kernel
theorem dX8_mean_42 : decode cX8_mean 42 = .ok (.istore 4, 2) := by decide +kernel
theorem dX8_mean_44 : decode cX8_mean 44 = .ok (.iload 4, 2) := by decide +kernel
theorem dX8_mean_46 : decode cX8_mean 46 = .ok (.aload_n 0, 1) := by decide +kernel
theorem dX8_mean_47 : decode cX8_mean 47 = .ok (.getfield 13, 3) := by decide +kernel
theorem dX8_mean_50 : decode cX8_mean 50 = .ok (.iload_n 1, 1) := by decide +kernel
theorem dX8_mean_51 : decode cX8_mean 51 = .ok (.iaload, 1) := by decide +kernel
theorem dX8_mean_52 : decode cX8_mean 52 = .ok (.if_icmp .ge 20, 3) := by decide +kernel
theorem dX8_mean_55 : decode cX8_mean 55 = .ok (.lload_n 2, 1) := by decide +kernel
theorem dX8_mean_56 : decode cX8_mean 56 = .ok (.aload_n 0, 1) := by decide +kernel
theorem dX8_mean_57 : decode cX8_mean 57 = .ok (.iload_n 1, 1) := by decide +kernel
theorem dX8_mean_58 : decode cX8_mean 58 = .ok (.iload 4, 2) := by decide +kernel
theorem dX8_mean_60 : decode cX8_mean 60 = .ok (.invokevirtual 130, 3) := by decide +kernel
theorem dX8_mean_63 : decode cX8_mean 63 = .ok (.i2l, 1) := by decide +kernel
theorem dX8_mean_64 : decode cX8_mean 64 = .ok (.ladd, 1) := by decide +kernel
theorem dX8_mean_65 : decode cX8_mean 65 = .ok (.lstore_n 2, 1) := by decide +kernel
theorem dX8_mean_66 : decode cX8_mean 66 = .ok (.iinc 4 1, 3) := by decide +kernel
theorem dX8_mean_69 : decode cX8_mean 69 = .ok (.goto (-25), 3) := by decide +kernel
theorem dX8_mean_72 : decode cX8_mean 72 = .ok (.aload_n 0, 1) := by decide +kernel
theorem dX8_mean_73 : decode cX8_mean 73 = .ok (.lload_n 2, 1) := by decide +kernel
theorem dX8_mean_74 : decode cX8_mean 74 = .ok (.aload_n 0, 1) := by decide +kernel
theorem dX8_mean_75 : decode cX8_mean 75 = .ok (.getfield 13, 3) := by decide +kernel
theorem dX8_mean_78 : decode cX8_mean 78 = .ok (.iload_n 1, 1) := by decide +kernel
theorem dX8_mean_79 : decode cX8_mean 79 = .ok (.iaload, 1) := by decide +kernel
theorem dX8_mean_80 : decode cX8_mean 80 = .ok (.i2l, 1) := by decide +kernel
theorem dX8_mean_81 : decode cX8_mean 81 = .ok (.ldiv, 1) := by decide +kernel
theorem dX8_mean_82 : decode cX8_mean 82 = .ok (.l2i, 1) := by decide +kernel
theorem dX8_mean_83 : decode cX8_mean 83 = .ok (.iconst 1, 1) := by decide +kernel
theorem dX8_mean_84 : decode cX8_mean 84 = .ok (.invokevirtual 134, 3) := by decide +kernel
theorem dX8_mean_87 : decode cX8_mean 87 = .ok (.ireturn, 1) := by decide +kernel
theorem dX8_isText_0 : decode cX8_isText 0 = .ok (.iload_n 0, 1) := by decide +kernel
theorem dX8_isText_1 : decode cX8_isText 1 = .ok (.iconst 0, 1) := by decide +kernel
theorem dX8_isText_2 : decode cX8_isText 2 = .ok (.iconst 3, 1) := by decide +kernel
theorem dX8_isText_3 : decode cX8_isText 3 = .ok (.invokestatic 112, 3) := by decide +kernel
theorem dX8_isText_6 : decode cX8_isText 6 = .ok (.ireturn, 1) := by decide +kernel
theorem dX8_text_0 : decode cX8_text 0 = .ok (.iload_n 1, 1) := by decide +kernel
theorem dX8_text_1 : decode cX8_text 1 = .ok (.invokestatic 137, 3) := by decide +kernel
theorem dX8_text_4 : decode cX8_text 4 = .ok (.ifCond .eq 9, 3) := by decide +kernel
theorem dX8_text_7 : decode cX8_text 7 = .ok (.iload_n 2, 1) := by decide +kernel
theorem dX8_text_8 : decode cX8_text 8 = .ok (.bipush 120, 2) := by decide +kernel
theorem dX8_text_10 : decode cX8_text 10 = .ok (.if_icmp .le 5, 3) := by decide +kernel
theorem dX8_text_13 : decode cX8_text 13 = .ok (.iconst (-1), 1) := by decide +kernel
theorem dX8_text_14 : decode cX8_text 14 = .ok (.ireturn, 1) := by decide +kernel
theorem dX8_text_15 : decode cX8_text 15 = .ok (.iload_n 2, 1) := by decide +kernel
theorem dX8_text_16 : decode cX8_text 16 = .ok (.ifCond .ge 9, 3) := by decide +kernel
theorem dX8_text_19 : decode cX8_text 19 = .ok (.aload_n 0, 1) := by decide +kernel
theorem dX8_text_20 : decode cX8_text 20 = .ok (.iconst 5, 1) := by decide +kernel
theorem dX8_text_21 : decode cX8_text 21 = .ok (.invokevirtual 126, 3) := by decide +kernel
theorem dX8_text_24 : decode cX8_text 24 = .ok (.ireturn, 1) := by decide +kernel
theorem dX8_text_25 : decode cX8_text 25 = .ok (.aload_n 0, 1) := by decide +kernel
theorem dX8_text_26 : decode cX8_text 26 = .ok (.getfield 22, 3) := by decide +kernel
theorem dX8_text_29 : decode cX8_text 29 = .ok (.iload_n 1, 1) := by decide +kernel
theorem dX8_text_30 : decode cX8_text 30 = .ok (.iload_n 2, 1) := by decide +kernel
theorem dX8_text_31 : decode cX8_text 31 = .ok (.iastore, 1) := by decide +kernel
theorem dX8_text_32 : decode cX8_text 32 = .ok (.iconst 0, 1) := by decide +kernel
theorem dX8_text_33 : decode cX8_text 33 = .ok (.istore_n 3, 1) := by decide +kernel
theorem dX8_text_34 : decode cX8_text 34 = .ok (.iload_n 3, 1) := by decide +kernel
theorem dX8_text_35 : decode cX8_text 35 = .ok (.bipush 120, 2) := by decide +kernel
theorem dX8_text_37 : decode cX8_text 37 = .ok (.if_icmp .ge 22, 3) := by decide +kernel
theorem dX8_text_40 : decode cX8_text 40 = .ok (.aload_n 0, 1) := by decide +kernel
theorem dX8_text_41 : decode cX8_text 41 = .ok (.getfield 25, 3) := by decide +kernel
theorem dX8_text_44 : decode cX8_text 44 = .ok (.bipush 120, 2) := by decide +kernel
theorem dX8_text_46 : decode cX8_text 46 = .ok (.iload_n 1, 1) := by decide +kernel
theorem dX8_text_47 : decode cX8_text 47 = .ok (.imul, 1) := by decide +kernel
theorem dX8_text_48 : decode cX8_text 48 = .ok (.iload_n 3, 1) := by decide +kernel
theorem dX8_text_49 : decode cX8_text 49 = .ok (.iadd, 1) := by decide +kernel
theorem dX8_text_50 : decode cX8_text 50 = .ok (.bipush 32, 2) := by decide +kernel
theorem dX8_text_52 : decode cX8_text 52 = .ok (.bastore, 1) := by decide +kernel
theorem dX8_text_53 : decode cX8_text 53 = .ok (.iinc 3 1, 3) := by decide +kernel
theorem dX8_text_56 : decode cX8_text 56 = .ok (.goto (-22), 3) := by decide +kernel
theorem dX8_text_59 : decode cX8_text 59 = .ok (.iload_n 2, 1) := by decide +kernel
theorem dX8_text_60 : decode cX8_text 60 = .ok (.ireturn, 1) := by decide +kernel
theorem dX8_put_0 : decode cX8_put 0 = .ok (.iload_n 1, 1) := by decide +kernel
theorem dX8_put_1 : decode cX8_put 1 = .ok (.invokestatic 137, 3) := by decide +kernel
theorem dX8_put_4 : decode cX8_put 4 = .ok (.ifCond .ne 5, 3) := by decide +kernel
theorem dX8_put_7 : decode cX8_put 7 = .ok (.iconst (-1), 1) := by decide +kernel
theorem dX8_put_8 : decode cX8_put 8 = .ok (.ireturn, 1) := by decide +kernel
theorem dX8_put_9 : decode cX8_put 9 = .ok (.aload_n 0, 1) := by decide +kernel
theorem dX8_put_10 : decode cX8_put 10 = .ok (.getfield 22, 3) := by decide +kernel
theorem dX8_put_13 : decode cX8_put 13 = .ok (.iload_n 1, 1) := by decide +kernel
theorem dX8_put_14 : decode cX8_put 14 = .ok (.iaload, 1) := by decide +kernel
theorem dX8_put_15 : decode cX8_put 15 = .ok (.ifCond .ge 9, 3) := by decide +kernel
theorem dX8_put_18 : decode cX8_put 18 = .ok (.aload_n 0, 1) := by decide +kernel
theorem dX8_put_19 : decode cX8_put 19 = .ok (.iconst 1, 1) := by decide +kernel
theorem dX8_put_20 : decode cX8_put 20 = .ok (.invokevirtual 126, 3) := by decide +kernel
theorem dX8_put_23 : decode cX8_put 23 = .ok (.ireturn, 1) := by decide +kernel
theorem dX8_put_24 : decode cX8_put 24 = .ok (.iload_n 2, 1) := by decide +kernel
theorem dX8_put_25 : decode cX8_put 25 = .ok (.iconst 0, 1) := by decide +kernel
theorem dX8_put_26 : decode cX8_put 26 = .ok (.aload_n 0, 1) := by decide +kernel
theorem dX8_put_27 : decode cX8_put 27 = .ok (.getfield 22, 3) := by decide +kernel
theorem dX8_put_30 : decode cX8_put 30 = .ok (.iload_n 1, 1) := by decide +kernel
theorem dX8_put_31 : decode cX8_put 31 = .ok (.iaload, 1) := by decide +kernel
theorem dX8_put_32 : decode cX8_put 32 = .ok (.iconst 1, 1) := by decide +kernel
theorem dX8_put_33 : decode cX8_put 33 = .ok (.isub, 1) := by decide +kernel
theorem dX8_put_34 : decode cX8_put 34 = .ok (.invokestatic 112, 3) := by decide +kernel
theorem dX8_put_37 : decode cX8_put 37 = .ok (.ifCond .ne 9, 3) := by decide +kernel
theorem dX8_put_40 : decode cX8_put 40 = .ok (.aload_n 0, 1) := by decide +kernel
theorem dX8_put_41 : decode cX8_put 41 = .ok (.iconst 2, 1) := by decide +kernel
theorem dX8_put_42 : decode cX8_put 42 = .ok (.invokevirtual 126, 3) := by decide +kernel
theorem dX8_put_45 : decode cX8_put 45 = .ok (.ireturn, 1) := by decide +kernel
theorem dX8_put_46 : decode cX8_put 46 = .ok (.aload_n 0, 1) := by decide +kernel
theorem dX8_put_47 : decode cX8_put 47 = .ok (.getfield 25, 3) := by decide +kernel
theorem dX8_put_50 : decode cX8_put 50 = .ok (.bipush 120, 2) := by decide +kernel
theorem dX8_put_52 : decode cX8_put 52 = .ok (.iload_n 1, 1) := by decide +kernel
theorem dX8_put_53 : decode cX8_put 53 = .ok (.imul, 1) := by decide +kernel
theorem dX8_put_54 : decode cX8_put 54 = .ok (.iload_n 2, 1) := by decide +kernel
theorem dX8_put_55 : decode cX8_put 55 = .ok (.iadd, 1) := by decide +kernel
theorem dX8_put_56 : decode cX8_put 56 = .ok (.baload, 1) := by decide +kernel
theorem dX8_put_57 : decode cX8_put 57 = .ok (.istore 4, 2) := by decide +kernel
theorem dX8_put_59 : decode cX8_put 59 = .ok (.aload_n 0, 1) := by decide +kernel
theorem dX8_put_60 : decode cX8_put 60 = .ok (.getfield 25, 3) := by decide +kernel
theorem dX8_put_63 : decode cX8_put 63 = .ok (.bipush 120, 2) := by decide +kernel
theorem dX8_put_65 : decode cX8_put 65 = .ok (.iload_n 1, 1) := by decide +kernel
theorem dX8_put_66 : decode cX8_put 66 = .ok (.imul, 1) := by decide +kernel
theorem dX8_put_67 : decode cX8_put 67 = .ok (.iload_n 2, 1) := by decide +kernel
theorem dX8_put_68 : decode cX8_put 68 = .ok (.iadd, 1) := by decide +kernel
theorem dX8_put_69 : decode cX8_put 69 = .ok (.iload_n 3, 1) := by decide +kernel
theorem dX8_put_70 : decode cX8_put 70 = .ok (.i2b, 1) := by decide +kernel
theorem dX8_put_71 : decode cX8_put 71 = .ok (.bastore, 1) := by decide +kernel
theorem dX8_put_72 : decode cX8_put 72 = .ok (.sipush 1000, 3) := by decide +kernel
theorem dX8_put_75 : decode cX8_put 75 = .ok (.iload 4, 2) := by decide +kernel
theorem dX8_put_77 : decode cX8_put 77 = .ok (.iadd, 1) := by decide +kernel
theorem dX8_put_78 : decode cX8_put 78 = .ok (.ireturn, 1) := by decide +kernel
theorem dX8_byteAt_0 : decode cX8_byteAt 0 = .ok (.iload_n 2, 1) := by decide +kernel
theorem dX8_byteAt_1 : decode cX8_byteAt 1 = .ok (.aload_n 0, 1) := by decide +kernel
theorem dX8_byteAt_2 : decode cX8_byteAt 2 = .ok (.getfield 22, 3) := by decide +kernel
theorem dX8_byteAt_5 : decode cX8_byteAt 5 = .ok (.iload_n 1, 1) := by decide +kernel
theorem dX8_byteAt_6 : decode cX8_byteAt 6 = .ok (.iaload, 1) := by decide +kernel
theorem dX8_byteAt_7 : decode cX8_byteAt 7 = .ok (.if_icmp .ge 17, 3) := by decide +kernel
theorem dX8_byteAt_10 : decode cX8_byteAt 10 = .ok (.aload_n 0, 1) := by decide +kernel
theorem dX8_byteAt_11 : decode cX8_byteAt 11 = .ok (.getfield 25, 3) := by decide +kernel
theorem dX8_byteAt_14 : decode cX8_byteAt 14 = .ok (.bipush 120, 2) := by decide +kernel
theorem dX8_byteAt_16 : decode cX8_byteAt 16 = .ok (.iload_n 1, 1) := by decide +kernel
theorem dX8_byteAt_17 : decode cX8_byteAt 17 = .ok (.imul, 1) := by decide +kernel
theorem dX8_byteAt_18 : decode cX8_byteAt 18 = .ok (.iload_n 2, 1) := by decide +kernel
theorem dX8_byteAt_19 : decode cX8_byteAt 19 = .ok (.iadd, 1) := by decide +kernel
theorem dX8_byteAt_20 : decode cX8_byteAt 20 = .ok (.baload, 1) := by decide +kernel
theorem dX8_byteAt_21 : decode cX8_byteAt 21 = .ok (.goto 4, 3) := by decide +kernel
theorem dX8_byteAt_24 : decode cX8_byteAt 24 = .ok (.iconst 0, 1) := by decide +kernel
theorem dX8_byteAt_25 : decode cX8_byteAt 25 = .ok (.ireturn, 1) := by decide +kernel
theorem dX8_sign_0 : decode cX8_sign 0 = .ok (.aload_n 0, 1) := by decide +kernel
theorem dX8_sign_1 : decode cX8_sign 1 = .ok (.iload_n 1, 1) := by decide +kernel
theorem dX8_sign_2 : decode cX8_sign 2 = .ok (.aload_n 0, 1) := by decide +kernel
theorem dX8_sign_3 : decode cX8_sign 3 = .ok (.getfield 140, 3) := by decide +kernel
theorem dX8_sign_6 : decode cX8_sign 6 = .ok (.invokevirtual 143, 3) := by decide +kernel
theorem dX8_sign_9 : decode cX8_sign 9 = .ok (.iload_n 2, 1) := by decide +kernel
theorem dX8_sign_10 : decode cX8_sign 10 = .ok (.if_icmp .ne 7, 3) := by decide +kernel
theorem dX8_sign_13 : decode cX8_sign 13 = .ok (.iconst 1, 1) := by decide +kernel
theorem dX8_sign_14 : decode cX8_sign 14 = .ok (.goto 4, 3) := by decide +kernel
theorem dX8_sign_17 : decode cX8_sign 17 = .ok (.iconst 0, 1) := by decide +kernel
theorem dX8_sign_18 : decode cX8_sign 18 = .ok (.istore_n 3, 1) := by decide +kernel
theorem dX8_sign_19 : decode cX8_sign 19 = .ok (.aload_n 0, 1) := by decide +kernel
theorem dX8_sign_20 : decode cX8_sign 20 = .ok (.dup, 1) := by decide +kernel
theorem dX8_sign_21 : decode cX8_sign 21 = .ok (.getfield 140, 3) := by decide +kernel
theorem dX8_sign_24 : decode cX8_sign 24 = .ok (.iload_n 3, 1) := by decide +kernel
theorem dX8_sign_25 : decode cX8_sign 25 = .ok (.ifCond .eq 7, 3) := by decide +kernel
theorem dX8_sign_28 : decode cX8_sign 28 = .ok (.iconst 1, 1) := by decide +kernel
theorem dX8_sign_29 : decode cX8_sign 29 = .ok (.goto 4, 3) := by decide +kernel
theorem dX8_sign_32 : decode cX8_sign 32 = .ok (.iconst 0, 1) := by decide +kernel
theorem dX8_sign_33 : decode cX8_sign 33 = .ok (.iadd, 1) := by decide +kernel
theorem dX8_sign_34 : decode cX8_sign 34 = .ok (.putfield 140, 3) := by decide +kernel
theorem dX8_sign_37 : decode cX8_sign 37 = .ok (.iload_n 3, 1) := by decide +kernel
theorem dX8_sign_38 : decode cX8_sign 38 = .ok (.ireturn, 1) := by decide +kernel
theorem dX8_figure_0 : decode cX8_figure 0 = .ok (.aload_n 0, 1) := by decide +kernel
theorem dX8_figure_1 : decode cX8_figure 1 = .ok (.aload_n 0, 1) := by decide +kernel
theorem dX8_figure_2 : decode cX8_figure 2 = .ok (.iload_n 1, 1) := by decide +kernel
theorem dX8_figure_3 : decode cX8_figure 3 = .ok (.aload_n 0, 1) := by decide +kernel
theorem dX8_figure_4 : decode cX8_figure 4 = .ok (.getfield 140, 3) := by decide +kernel
theorem dX8_figure_7 : decode cX8_figure 7 = .ok (.invokevirtual 143, 3) := by decide +kernel
theorem dX8_figure_10 : decode cX8_figure 10 = .ok (.bipush 48, 2) := by decide +kernel
theorem dX8_figure_12 : decode cX8_figure 12 = .ok (.isub, 1) := by decide +kernel
theorem dX8_figure_13 : decode cX8_figure 13 = .ok (.putfield 146, 3) := by decide +kernel
theorem dX8_figure_16 : decode cX8_figure 16 = .ok (.aload_n 0, 1) := by decide +kernel
theorem dX8_figure_17 : decode cX8_figure 17 = .ok (.getfield 146, 3) := by decide +kernel
theorem dX8_figure_20 : decode cX8_figure 20 = .ok (.iconst 0, 1) := by decide +kernel
theorem dX8_figure_21 : decode cX8_figure 21 = .ok (.bipush 9, 2) := by decide +kernel
theorem dX8_figure_23 : decode cX8_figure 23 = .ok (.invokestatic 112, 3) := by decide +kernel
theorem dX8_figure_26 : decode cX8_figure 26 = .ok (.ifCond .eq 15, 3) := by decide +kernel
theorem dX8_figure_29 : decode cX8_figure 29 = .ok (.aload_n 0, 1) := by decide +kernel
theorem dX8_figure_30 : decode cX8_figure 30 = .ok (.getfield 146, 3) := by decide +kernel
theorem dX8_figure_33 : decode cX8_figure 33 = .ok (.iload_n 2, 1) := by decide +kernel
theorem dX8_figure_34 : decode cX8_figure 34 = .ok (.if_icmp .gt 7, 3) := by decide +kernel
theorem dX8_figure_37 : decode cX8_figure 37 = .ok (.iconst 1, 1) := by decide +kernel
theorem dX8_figure_38 : decode cX8_figure 38 = .ok (.goto 4, 3) := by decide +kernel
theorem dX8_figure_41 : decode cX8_figure 41 = .ok (.iconst 0, 1) := by decide +kernel
theorem dX8_figure_42 : decode cX8_figure 42 = .ok (.istore_n 3, 1) := by decide +kernel
theorem dX8_figure_43 : decode cX8_figure 43 = .ok (.aload_n 0, 1) := by decide +kernel
theorem dX8_figure_44 : decode cX8_figure 44 = .ok (.dup, 1) := by decide +kernel
theorem dX8_figure_45 : decode cX8_figure 45 = .ok (.getfield 140, 3) := by decide +kernel
theorem dX8_figure_48 : decode cX8_figure 48 = .ok (.iload_n 3, 1) := by decide +kernel
theorem dX8_figure_49 : decode cX8_figure 49 = .ok (.ifCond .eq 7, 3) := by decide +kernel
theorem dX8_figure_52 : decode cX8_figure 52 = .ok (.iconst 1, 1) := by decide +kernel
theorem dX8_figure_53 : decode cX8_figure 53 = .ok (.goto 4, 3) := by decide +kernel
theorem dX8_figure_56 : decode cX8_figure 56 = .ok (.iconst 0, 1) := by decide +kernel
theorem dX8_figure_57 : decode cX8_figure 57 = .ok (.iadd, 1) := by decide +kernel
theorem dX8_figure_58 : decode cX8_figure 58 = .ok (.putfield 140, 3) := by decide +kernel
theorem dX8_figure_61 : decode cX8_figure 61 = .ok (.iload_n 3, 1) := by decide +kernel
theorem dX8_figure_62 : decode cX8_figure 62 = .ok (.ireturn, 1) := by decide +kernel
theorem dX8_number_0 : decode cX8_number 0 = .ok (.iconst 0, 1) := by decide +kernel
theorem dX8_number_1 : decode cX8_number 1 = .ok (.istore_n 3, 1) := by decide +kernel
theorem dX8_number_2 : decode cX8_number 2 = .ok (.iconst 0, 1) := by decide +kernel
theorem dX8_number_3 : decode cX8_number 3 = .ok (.istore 4, 2) := by decide +kernel
theorem dX8_number_5 : decode cX8_number 5 = .ok (.iload_n 3, 1) := by decide +kernel
theorem dX8_number_6 : decode cX8_number 6 = .ok (.iconst 2, 1) := by decide +kernel
theorem dX8_number_7 : decode cX8_number 7 = .ok (.if_icmp .ge 58, 3) := by decide +kernel
theorem dX8_number_10 : decode cX8_number 10 = .ok (.aload_n 0, 1) := by decide +kernel
theorem dX8_number_11 : decode cX8_number 11 = .ok (.iload_n 1, 1) := by decide +kernel
theorem dX8_number_12 : decode cX8_number 12 = .ok (.aload_n 0, 1) := by decide +kernel
theorem dX8_number_13 : decode cX8_number 13 = .ok (.getfield 140, 3) := by decide +kernel
theorem dX8_number_16 : decode cX8_number 16 = .ok (.invokevirtual 143, 3) := by decide +kernel
theorem dX8_number_19 : decode cX8_number 19 = .ok (.bipush 48, 2) := by decide +kernel
theorem dX8_number_21 : decode cX8_number 21 = .ok (.bipush 57, 2) := by decide +kernel
theorem dX8_number_23 : decode cX8_number 23 = .ok (.invokestatic 112, 3) := by decide +kernel
theorem dX8_number_26 : decode cX8_number 26 = .ok (.ifCond .eq 39, 3) := by decide +kernel
theorem dX8_number_29 : decode cX8_number 29 = .ok (.bipush 10, 2) := by decide +kernel
theorem dX8_number_31 : decode cX8_number 31 = .ok (.iload 4, 2) := by decide +kernel
theorem dX8_number_33 : decode cX8_number 33 = .ok (.imul, 1) := by decide +kernel
theorem dX8_number_34 : decode cX8_number 34 = .ok (.aload_n 0, 1) := by decide +kernel
theorem dX8_number_35 : decode cX8_number 35 = .ok (.iload_n 1, 1) := by decide +kernel
theorem dX8_number_36 : decode cX8_number 36 = .ok (.aload_n 0, 1) := by decide +kernel
theorem dX8_number_37 : decode cX8_number 37 = .ok (.getfield 140, 3) := by decide +kernel
theorem dX8_number_40 : decode cX8_number 40 = .ok (.invokevirtual 143, 3) := by decide +kernel
theorem dX8_number_43 : decode cX8_number 43 = .ok (.iadd, 1) := by decide +kernel
theorem dX8_number_44 : decode cX8_number 44 = .ok (.bipush 48, 2) := by decide +kernel
theorem dX8_number_46 : decode cX8_number 46 = .ok (.isub, 1) := by decide +kernel
theorem dX8_number_47 : decode cX8_number 47 = .ok (.istore 4, 2) := by decide +kernel
theorem dX8_number_49 : decode cX8_number 49 = .ok (.aload_n 0, 1) := by decide +kernel
theorem dX8_number_50 : decode cX8_number 50 = .ok (.dup, 1) := by decide +kernel
theorem dX8_number_51 : decode cX8_number 51 = .ok (.getfield 140, 3) := by decide +kernel
theorem dX8_number_54 : decode cX8_number 54 = .ok (.iconst 1, 1) := by decide +kernel
theorem dX8_number_55 : decode cX8_number 55 = .ok (.iadd, 1) := by decide +kernel
theorem dX8_number_56 : decode cX8_number 56 = .ok (.putfield 140, 3) := by decide +kernel
theorem dX8_number_59 : decode cX8_number 59 = .ok (.iinc 3 1, 3) := by decide +kernel
theorem dX8_number_62 : decode cX8_number 62 = .ok (.goto (-57), 3) := by decide +kernel
theorem dX8_number_65 : decode cX8_number 65 = .ok (.aload_n 0, 1) := by decide +kernel
theorem dX8_number_66 : decode cX8_number 66 = .ok (.iload 4, 2) := by decide +kernel
theorem dX8_number_68 : decode cX8_number 68 = .ok (.putfield 146, 3) := by decide +kernel
theorem dX8_number_71 : decode cX8_number 71 = .ok (.iload_n 3, 1) := by decide +kernel
theorem dX8_number_72 : decode cX8_number 72 = .ok (.ifCond .le 13, 3) := by decide +kernel
theorem dX8_number_75 : decode cX8_number 75 = .ok (.iload 4, 2) := by decide +kernel
theorem dX8_number_77 : decode cX8_number 77 = .ok (.iload_n 2, 1) := by decide +kernel
theorem dX8_number_78 : decode cX8_number 78 = .ok (.if_icmp .gt 7, 3) := by decide +kernel
theorem dX8_number_81 : decode cX8_number 81 = .ok (.iconst 1, 1) := by decide +kernel
theorem dX8_number_82 : decode cX8_number 82 = .ok (.goto 4, 3) := by decide +kernel
theorem dX8_number_85 : decode cX8_number 85 = .ok (.iconst 0, 1) := by decide +kernel
theorem dX8_number_86 : decode cX8_number 86 = .ok (.ireturn, 1) := by decide +kernel
theorem dX8_readsHouse_0 : decode cX8_readsHouse 0 = .ok (.aload_n 0, 1) := by decide +kernel
theorem dX8_readsHouse_1 : decode cX8_readsHouse 1 = .ok (.getfield 149, 3) := by decide +kernel
theorem dX8_readsHouse_4 : decode cX8_readsHouse 4 = .ok (.bipush 6, 2) := by decide +kernel
theorem dX8_readsHouse_6 : decode cX8_readsHouse 6 = .ok (.if_icmp .ne 5, 3) := by decide +kernel
theorem dX8_readsHouse_9 : decode cX8_readsHouse 9 = .ok (.iconst 0, 1) := by decide +kernel
theorem dX8_readsHouse_10 : decode cX8_readsHouse 10 = .ok (.ireturn, 1) := by decide +kernel
theorem dX8_readsHouse_11 : decode cX8_readsHouse 11 = .ok (.aload_n 0, 1) := by decide +kernel
theorem dX8_readsHouse_12 : decode cX8_readsHouse 12 = .ok (.dup, 1) := by decide +kernel
theorem dX8_readsHouse_13 : decode cX8_readsHouse 13 = .ok (.getfield 140, 3) := by decide +kernel
theorem dX8_readsHouse_16 : decode cX8_readsHouse 16 = .ok (.iconst 1, 1) := by decide +kernel
theorem dX8_readsHouse_17 : decode cX8_readsHouse 17 = .ok (.iadd, 1) := by decide +kernel
theorem dX8_readsHouse_18 : decode cX8_readsHouse 18 = .ok (.putfield 140, 3) := by decide +kernel
theorem dX8_readsHouse_21 : decode cX8_readsHouse 21 = .ok (.aload_n 0, 1) := by decide +kernel
theorem dX8_readsHouse_22 : decode cX8_readsHouse 22 = .ok (.iload_n 1, 1) := by decide +kernel
theorem dX8_readsHouse_23 : decode cX8_readsHouse 23 = .ok (.bipush 99, 2) := by decide +kernel
theorem dX8_readsHouse_25 : decode cX8_readsHouse 25 = .ok (.invokevirtual 152, 3) := by decide +kernel
theorem dX8_readsHouse_28 : decode cX8_readsHouse 28 = .ok (.istore_n 2, 1) := by decide +kernel
theorem dX8_readsHouse_29 : decode cX8_readsHouse 29 = .ok (.iload_n 2, 1) := by decide +kernel
theorem dX8_readsHouse_30 : decode cX8_readsHouse 30 = .ok (.ifCond .eq 26, 3) := by decide +kernel
theorem dX8_readsHouse_33 : decode cX8_readsHouse 33 = .ok (.aload_n 0, 1) := by decide +kernel
theorem dX8_readsHouse_34 : decode cX8_readsHouse 34 = .ok (.getfield 38, 3) := by decide +kernel
theorem dX8_readsHouse_37 : decode cX8_readsHouse 37 = .ok (.aload_n 0, 1) := by decide +kernel
theorem dX8_readsHouse_38 : decode cX8_readsHouse 38 = .ok (.getfield 149, 3) := by decide +kernel
theorem dX8_readsHouse_41 : decode cX8_readsHouse 41 = .ok (.aload_n 0, 1) := by decide +kernel
theorem dX8_readsHouse_42 : decode cX8_readsHouse 42 = .ok (.getfield 146, 3) := by decide +kernel
theorem dX8_readsHouse_45 : decode cX8_readsHouse 45 = .ok (.iastore, 1) := by decide +kernel
theorem dX8_readsHouse_46 : decode cX8_readsHouse 46 = .ok (.aload_n 0, 1) := by decide +kernel
theorem dX8_readsHouse_47 : decode cX8_readsHouse 47 = .ok (.dup, 1) := by decide +kernel
theorem dX8_readsHouse_48 : decode cX8_readsHouse 48 = .ok (.getfield 149, 3) := by decide +kernel
theorem dX8_readsHouse_51 : decode cX8_readsHouse 51 = .ok (.iconst 1, 1) := by decide +kernel
theorem dX8_readsHouse_52 : decode cX8_readsHouse 52 = .ok (.iadd, 1) := by decide +kernel
theorem dX8_readsHouse_53 : decode cX8_readsHouse 53 = .ok (.putfield 149, 3) := by decide +kernel
theorem dX8_readsHouse_56 : decode cX8_readsHouse 56 = .ok (.iload_n 2, 1) := by decide +kernel
theorem dX8_readsHouse_57 : decode cX8_readsHouse 57 = .ok (.ireturn, 1) := by decide +kernel
theorem dX8_readsPerson_0 : decode cX8_readsPerson 0 = .ok (.aload_n 0, 1) := by decide +kernel
theorem dX8_readsPerson_1 : decode cX8_readsPerson 1 = .ok (.getfield 156, 3) := by decide +kernel
theorem dX8_readsPerson_4 : decode cX8_readsPerson 4 = .ok (.bipush 12, 2) := by decide +kernel
theorem dX8_readsPerson_6 : decode cX8_readsPerson 6 = .ok (.if_icmp .ne 5, 3) := by decide +kernel
theorem dX8_readsPerson_9 : decode cX8_readsPerson 9 = .ok (.iconst 0, 1) := by decide +kernel
theorem dX8_readsPerson_10 : decode cX8_readsPerson 10 = .ok (.ireturn, 1) := by decide +kernel
theorem dX8_readsPerson_11 : decode cX8_readsPerson 11 = .ok (.aload_n 0, 1) := by decide +kernel
theorem dX8_readsPerson_12 : decode cX8_readsPerson 12 = .ok (.dup, 1) := by decide +kernel
theorem dX8_readsPerson_13 : decode cX8_readsPerson 13 = .ok (.getfield 140, 3) := by decide +kernel
theorem dX8_readsPerson_16 : decode cX8_readsPerson 16 = .ok (.iconst 1, 1) := by decide +kernel
theorem dX8_readsPerson_17 : decode cX8_readsPerson 17 = .ok (.iadd, 1) := by decide +kernel
theorem dX8_readsPerson_18 : decode cX8_readsPerson 18 = .ok (.putfield 140, 3) := by decide +kernel
theorem dX8_readsPerson_21 : decode cX8_readsPerson 21 = .ok (.aload_n 0, 1) := by decide +kernel
theorem dX8_readsPerson_22 : decode cX8_readsPerson 22 = .ok (.iload_n 1, 1) := by decide +kernel
theorem dX8_readsPerson_23 : decode cX8_readsPerson 23 = .ok (.bipush 45, 2) := by decide +kernel
theorem dX8_readsPerson_25 : decode cX8_readsPerson 25 = .ok (.invokevirtual 159, 3) := by decide +kernel
theorem dX8_readsPerson_28 : decode cX8_readsPerson 28 = .ok (.ifCond .eq 17, 3) := by decide +kernel
theorem dX8_readsPerson_31 : decode cX8_readsPerson 31 = .ok (.aload_n 0, 1) := by decide +kernel
theorem dX8_readsPerson_32 : decode cX8_readsPerson 32 = .ok (.getfield 41, 3) := by decide +kernel
theorem dX8_readsPerson_35 : decode cX8_readsPerson 35 = .ok (.aload_n 0, 1) := by decide +kernel
theorem dX8_readsPerson_36 : decode cX8_readsPerson 36 = .ok (.getfield 156, 3) := by decide +kernel
theorem dX8_readsPerson_39 : decode cX8_readsPerson 39 = .ok (.bipush (-9), 2) := by decide +kernel
theorem dX8_readsPerson_41 : decode cX8_readsPerson 41 = .ok (.iastore, 1) := by decide +kernel
theorem dX8_readsPerson_42 : decode cX8_readsPerson 42 = .ok (.goto 35, 3) := by decide +kernel
theorem dX8_readsPerson_45 : decode cX8_readsPerson 45 = .ok (.aload_n 0, 1) := by decide +kernel
theorem dX8_readsPerson_46 : decode cX8_readsPerson 46 = .ok (.iload_n 1, 1) := by decide +kernel
theorem dX8_readsPerson_47 : decode cX8_readsPerson 47 = .ok (.aload_n 0, 1) := by decide +kernel
theorem dX8_readsPerson_48 : decode cX8_readsPerson 48 = .ok (.getfield 149, 3) := by decide +kernel
theorem dX8_readsPerson_51 : decode cX8_readsPerson 51 = .ok (.iconst 1, 1) := by decide +kernel
theorem dX8_readsPerson_52 : decode cX8_readsPerson 52 = .ok (.isub, 1) := by decide +kernel
theorem dX8_readsPerson_53 : decode cX8_readsPerson 53 = .ok (.invokevirtual 162, 3) := by decide +kernel
theorem dX8_readsPerson_56 : decode cX8_readsPerson 56 = .ok (.ifCond .eq 19, 3) := by decide +kernel
theorem dX8_readsPerson_59 : decode cX8_readsPerson 59 = .ok (.aload_n 0, 1) := by decide +kernel
theorem dX8_readsPerson_60 : decode cX8_readsPerson 60 = .ok (.getfield 41, 3) := by decide +kernel
theorem dX8_readsPerson_63 : decode cX8_readsPerson 63 = .ok (.aload_n 0, 1) := by decide +kernel
theorem dX8_readsPerson_64 : decode cX8_readsPerson 64 = .ok (.getfield 156, 3) := by decide +kernel
theorem dX8_readsPerson_67 : decode cX8_readsPerson 67 = .ok (.aload_n 0, 1) := by decide +kernel
theorem dX8_readsPerson_68 : decode cX8_readsPerson 68 = .ok (.getfield 146, 3) := by decide +kernel
theorem dX8_readsPerson_71 : decode cX8_readsPerson 71 = .ok (.iastore, 1) := by decide +kernel
theorem dX8_readsPerson_72 : decode cX8_readsPerson 72 = .ok (.goto 5, 3) := by decide +kernel
theorem dX8_readsPerson_75 : decode cX8_readsPerson 75 = .ok (.iconst 0, 1) := by decide +kernel
theorem dX8_readsPerson_76 : decode cX8_readsPerson 76 = .ok (.ireturn, 1) := by decide +kernel
theorem dX8_readsPerson_77 : decode cX8_readsPerson 77 = .ok (.aload_n 0, 1) := by decide +kernel
theorem dX8_readsPerson_78 : decode cX8_readsPerson 78 = .ok (.iload_n 1, 1) := by decide +kernel
theorem dX8_readsPerson_79 : decode cX8_readsPerson 79 = .ok (.bipush 58, 2) := by decide +kernel
theorem dX8_readsPerson_81 : decode cX8_readsPerson 81 = .ok (.invokevirtual 159, 3) := by decide +kernel
theorem dX8_readsPerson_84 : decode cX8_readsPerson 84 = .ok (.ifCond .eq 13, 3) := by decide +kernel
theorem dX8_readsPerson_87 : decode cX8_readsPerson 87 = .ok (.aload_n 0, 1) := by decide +kernel
theorem dX8_readsPerson_88 : decode cX8_readsPerson 88 = .ok (.iload_n 1, 1) := by decide +kernel
theorem dX8_readsPerson_89 : decode cX8_readsPerson 89 = .ok (.bipush 12, 2) := by decide +kernel
theorem dX8_readsPerson_91 : decode cX8_readsPerson 91 = .ok (.invokevirtual 152, 3) := by decide +kernel
theorem dX8_readsPerson_94 : decode cX8_readsPerson 94 = .ok (.ifCond .ne 5, 3) := by decide +kernel
theorem dX8_readsPerson_97 : decode cX8_readsPerson 97 = .ok (.iconst 0, 1) := by decide +kernel
theorem dX8_readsPerson_98 : decode cX8_readsPerson 98 = .ok (.ireturn, 1) := by decide +kernel
theorem dX8_readsPerson_99 : decode cX8_readsPerson 99 = .ok (.aload_n 0, 1) := by decide +kernel
theorem dX8_readsPerson_100 : decode cX8_readsPerson 100 = .ok (.getfield 44, 3) := by decide +kernel
theorem dX8_readsPerson_103 : decode cX8_readsPerson 103 = .ok (.aload_n 0, 1) := by decide +kernel
theorem dX8_readsPerson_104 : decode cX8_readsPerson 104 = .ok (.getfield 156, 3) := by decide +kernel
theorem dX8_readsPerson_107 : decode cX8_readsPerson 107 = .ok (.aload_n 0, 1) := by decide +kernel
theorem dX8_readsPerson_108 : decode cX8_readsPerson 108 = .ok (.getfield 146, 3) := by decide +kernel
theorem dX8_readsPerson_111 : decode cX8_readsPerson 111 = .ok (.iastore, 1) := by decide +kernel
theorem dX8_readsPerson_112 : decode cX8_readsPerson 112 = .ok (.aload_n 0, 1) := by decide +kernel
theorem dX8_readsPerson_113 : decode cX8_readsPerson 113 = .ok (.dup, 1) := by decide +kernel
theorem dX8_readsPerson_114 : decode cX8_readsPerson 114 = .ok (.getfield 156, 3) := by decide +kernel
theorem dX8_readsPerson_117 : decode cX8_readsPerson 117 = .ok (.iconst 1, 1) := by decide +kernel
theorem dX8_readsPerson_118 : decode cX8_readsPerson 118 = .ok (.iadd, 1) := by decide +kernel
theorem dX8_readsPerson_119 : decode cX8_readsPerson 119 = .ok (.putfield 156, 3) := by decide +kernel
theorem dX8_readsPerson_122 : decode cX8_readsPerson 122 = .ok (.iconst 1, 1) := by decide +kernel
theorem dX8_readsPerson_123 : decode cX8_readsPerson 123 = .ok (.ireturn, 1) := by decide +kernel
theorem dX8_streetFault_0 : decode cX8_streetFault 0 = .ok (.aload_n 0, 1) := by decide +kernel
theorem dX8_streetFault_1 : decode cX8_streetFault 1 = .ok (.iconst 0, 1) := by decide +kernel
theorem dX8_streetFault_2 : decode cX8_streetFault 2 = .ok (.putfield 140, 3) := by decide +kernel
theorem dX8_streetFault_5 : decode cX8_streetFault 5 = .ok (.aload_n 0, 1) := by decide +kernel
theorem dX8_streetFault_6 : decode cX8_streetFault 6 = .ok (.iconst 0, 1) := by decide +kernel
theorem dX8_streetFault_7 : decode cX8_streetFault 7 = .ok (.putfield 149, 3) := by decide +kernel
theorem dX8_streetFault_10 : decode cX8_streetFault 10 = .ok (.aload_n 0, 1) := by decide +kernel
theorem dX8_streetFault_11 : decode cX8_streetFault 11 = .ok (.iconst 0, 1) := by decide +kernel
theorem dX8_streetFault_12 : decode cX8_streetFault 12 = .ok (.putfield 156, 3) := by decide +kernel
theorem dX8_streetFault_15 : decode cX8_streetFault 15 = .ok (.aload_n 0, 1) := by decide +kernel
theorem dX8_streetFault_16 : decode cX8_streetFault 16 = .ok (.getfield 140, 3) := by decide +kernel
theorem dX8_streetFault_19 : decode cX8_streetFault 19 = .ok (.aload_n 0, 1) := by decide +kernel
theorem dX8_streetFault_20 : decode cX8_streetFault 20 = .ok (.getfield 22, 3) := by decide +kernel
theorem dX8_streetFault_23 : decode cX8_streetFault 23 = .ok (.iload_n 1, 1) := by decide +kernel
theorem dX8_streetFault_24 : decode cX8_streetFault 24 = .ok (.iaload, 1) := by decide +kernel
theorem dX8_streetFault_25 : decode cX8_streetFault 25 = .ok (.if_icmp .ge 71, 3) := by decide +kernel
theorem dX8_streetFault_28 : decode cX8_streetFault 28 = .ok (.aload_n 0, 1) := by decide +kernel
theorem dX8_streetFault_29 : decode cX8_streetFault 29 = .ok (.iload_n 1, 1) := by decide +kernel
theorem dX8_streetFault_30 : decode cX8_streetFault 30 = .ok (.aload_n 0, 1) := by decide +kernel
theorem dX8_streetFault_31 : decode cX8_streetFault 31 = .ok (.getfield 140, 3) := by decide +kernel
theorem dX8_streetFault_34 : decode cX8_streetFault 34 = .ok (.invokevirtual 143, 3) := by decide +kernel
theorem dX8_streetFault_37 : decode cX8_streetFault 37 = .ok (.istore_n 2, 1) := by decide +kernel
theorem dX8_streetFault_38 : decode cX8_streetFault 38 = .ok (.iload_n 2, 1) := by decide +kernel
theorem dX8_streetFault_39 : decode cX8_streetFault 39 = .ok (.bipush 32, 2) := by decide +kernel
theorem dX8_streetFault_41 : decode cX8_streetFault 41 = .ok (.if_icmp .ne 16, 3) := by decide +kernel
theorem dX8_streetFault_44 : decode cX8_streetFault 44 = .ok (.aload_n 0, 1) := by decide +kernel
theorem dX8_streetFault_45 : decode cX8_streetFault 45 = .ok (.dup, 1) := by decide +kernel
theorem dX8_streetFault_46 : decode cX8_streetFault 46 = .ok (.getfield 140, 3) := by decide +kernel
theorem dX8_streetFault_49 : decode cX8_streetFault 49 = .ok (.iconst 1, 1) := by decide +kernel
theorem dX8_streetFault_50 : decode cX8_streetFault 50 = .ok (.iadd, 1) := by decide +kernel
theorem dX8_streetFault_51 : decode cX8_streetFault 51 = .ok (.putfield 140, 3) := by decide +kernel
theorem dX8_streetFault_54 : decode cX8_streetFault 54 = .ok (.goto 39, 3) := by decide +kernel
theorem dX8_streetFault_57 : decode cX8_streetFault 57 = .ok (.iload_n 2, 1) := by decide +kernel
theorem dX8_streetFault_58 : decode cX8_streetFault 58 = .ok (.bipush 104, 2) := by decide +kernel
theorem dX8_streetFault_60 : decode cX8_streetFault 60 = .ok (.if_icmp .ne 14, 3) := by decide +kernel
theorem dX8_streetFault_63 : decode cX8_streetFault 63 = .ok (.aload_n 0, 1) := by decide +kernel
theorem dX8_streetFault_64 : decode cX8_streetFault 64 = .ok (.iload_n 1, 1) := by decide +kernel
theorem dX8_streetFault_65 : decode cX8_streetFault 65 = .ok (.invokevirtual 165, 3) := by decide +kernel
theorem dX8_streetFault_68 : decode cX8_streetFault 68 = .ok (.ifCond .eq 20, 3) := by decide +kernel
theorem dX8_streetFault_71 : decode cX8_streetFault 71 = .ok (.goto 22, 3) := by decide +kernel
theorem dX8_streetFault_74 : decode cX8_streetFault 74 = .ok (.iload_n 2, 1) := by decide +kernel
theorem dX8_streetFault_75 : decode cX8_streetFault 75 = .ok (.bipush 112, 2) := by decide +kernel
theorem dX8_streetFault_77 : decode cX8_streetFault 77 = .ok (.if_icmp .ne 11, 3) := by decide +kernel
theorem dX8_streetFault_80 : decode cX8_streetFault 80 = .ok (.aload_n 0, 1) := by decide +kernel
theorem dX8_streetFault_81 : decode cX8_streetFault 81 = .ok (.iload_n 1, 1) := by decide +kernel
theorem dX8_streetFault_82 : decode cX8_streetFault 82 = .ok (.invokevirtual 168, 3) := by decide +kernel
theorem dX8_streetFault_85 : decode cX8_streetFault 85 = .ok (.ifCond .ne 8, 3) := by decide +kernel
theorem dX8_streetFault_88 : decode cX8_streetFault 88 = .ok (.aload_n 0, 1) := by decide +kernel
theorem dX8_streetFault_89 : decode cX8_streetFault 89 = .ok (.getfield 140, 3) := by decide +kernel
theorem dX8_streetFault_92 : decode cX8_streetFault 92 = .ok (.ireturn, 1) := by decide +kernel
theorem dX8_streetFault_93 : decode cX8_streetFault 93 = .ok (.goto (-78), 3) := by decide +kernel
theorem dX8_streetFault_96 : decode cX8_streetFault 96 = .ok (.bipush (-9), 2) := by decide +kernel
theorem dX8_streetFault_98 : decode cX8_streetFault 98 = .ok (.ireturn, 1) := by decide +kernel
theorem dX8_kindOf_0 : decode cX8_kindOf 0 = .ok (.iload_n 0, 1) := by decide +kernel
theorem dX8_kindOf_1 : decode cX8_kindOf 1 = .ok (.tableswitch 122 99 120 #[105, 122, 122, 119, 107, 122, 111, 122, 122, 109, 103, 122, 122, 122, 116, 122, 122, 122, 122, 122, 122, 113], 103) := by decide +kernel
theorem dX8_kindOf_104 : decode cX8_kindOf 104 = .ok (.iconst 1, 1) := by decide +kernel
theorem dX8_kindOf_105 : decode cX8_kindOf 105 = .ok (.ireturn, 1) := by decide +kernel
theorem dX8_kindOf_106 : decode cX8_kindOf 106 = .ok (.iconst 2, 1) := by decide +kernel
theorem dX8_kindOf_107 : decode cX8_kindOf 107 = .ok (.ireturn, 1) := by decide +kernel
theorem dX8_kindOf_108 : decode cX8_kindOf 108 = .ok (.iconst 3, 1) := by decide +kernel
theorem dX8_kindOf_109 : decode cX8_kindOf 109 = .ok (.ireturn, 1) := by decide +kernel
theorem dX8_kindOf_110 : decode cX8_kindOf 110 = .ok (.iconst 4, 1) := by decide +kernel
theorem dX8_kindOf_111 : decode cX8_kindOf 111 = .ok (.ireturn, 1) := by decide +kernel
theorem dX8_kindOf_112 : decode cX8_kindOf 112 = .ok (.iconst 5, 1) := by decide +kernel
theorem dX8_kindOf_113 : decode cX8_kindOf 113 = .ok (.ireturn, 1) := by decide +kernel
theorem dX8_kindOf_114 : decode cX8_kindOf 114 = .ok (.bipush 6, 2) := by decide +kernel
theorem dX8_kindOf_116 : decode cX8_kindOf 116 = .ok (.ireturn, 1) := by decide +kernel
theorem dX8_kindOf_117 : decode cX8_kindOf 117 = .ok (.bipush 7, 2) := by decide +kernel
theorem dX8_kindOf_119 : decode cX8_kindOf 119 = .ok (.ireturn, 1) := by decide +kernel
theorem dX8_kindOf_120 : decode cX8_kindOf 120 = .ok (.bipush 7, 2) := by decide +kernel
theorem dX8_kindOf_122 : decode cX8_kindOf 122 = .ok (.ireturn, 1) := by decide +kernel
theorem dX8_kindOf_123 : decode cX8_kindOf 123 = .ok (.iconst 0, 1) := by decide +kernel
theorem dX8_kindOf_124 : decode cX8_kindOf 124 = .ok (.ireturn, 1) := by decide +kernel
theorem dX8_readsEvent_0 : decode cX8_readsEvent 0 = .ok (.aload_n 0, 1) := by decide +kernel
theorem dX8_readsEvent_1 : decode cX8_readsEvent 1 = .ok (.iload_n 1, 1) := by decide +kernel
theorem dX8_readsEvent_2 : decode cX8_readsEvent 2 = .ok (.aload_n 0, 1) := by decide +kernel
theorem dX8_readsEvent_3 : decode cX8_readsEvent 3 = .ok (.getfield 140, 3) := by decide +kernel
theorem dX8_readsEvent_6 : decode cX8_readsEvent 6 = .ok (.invokevirtual 143, 3) := by decide +kernel
theorem dX8_readsEvent_9 : decode cX8_readsEvent 9 = .ok (.istore_n 2, 1) := by decide +kernel
theorem dX8_readsEvent_10 : decode cX8_readsEvent 10 = .ok (.iload_n 2, 1) := by decide +kernel
theorem dX8_readsEvent_11 : decode cX8_readsEvent 11 = .ok (.invokestatic 171, 3) := by decide +kernel
theorem dX8_readsEvent_14 : decode cX8_readsEvent 14 = .ok (.istore_n 3, 1) := by decide +kernel
theorem dX8_readsEvent_15 : decode cX8_readsEvent 15 = .ok (.iload_n 3, 1) := by decide +kernel
theorem dX8_readsEvent_16 : decode cX8_readsEvent 16 = .ok (.ifCond .eq 26, 3) := by decide +kernel
theorem dX8_readsEvent_19 : decode cX8_readsEvent 19 = .ok (.aload_n 0, 1) := by decide +kernel
theorem dX8_readsEvent_20 : decode cX8_readsEvent 20 = .ok (.getfield 174, 3) := by decide +kernel
theorem dX8_readsEvent_23 : decode cX8_readsEvent 23 = .ok (.bipush 40, 2) := by decide +kernel
theorem dX8_readsEvent_25 : decode cX8_readsEvent 25 = .ok (.if_icmp .eq 17, 3) := by decide +kernel
theorem dX8_readsEvent_28 : decode cX8_readsEvent 28 = .ok (.iload_n 3, 1) := by decide +kernel
theorem dX8_readsEvent_29 : decode cX8_readsEvent 29 = .ok (.iconst 2, 1) := by decide +kernel
theorem dX8_readsEvent_30 : decode cX8_readsEvent 30 = .ok (.if_icmp .gt 14, 3) := by decide +kernel
theorem dX8_readsEvent_33 : decode cX8_readsEvent 33 = .ok (.aload_n 0, 1) := by decide +kernel
theorem dX8_readsEvent_34 : decode cX8_readsEvent 34 = .ok (.getfield 177, 3) := by decide +kernel
theorem dX8_readsEvent_37 : decode cX8_readsEvent 37 = .ok (.bipush 24, 2) := by decide +kernel
theorem dX8_readsEvent_39 : decode cX8_readsEvent 39 = .ok (.if_icmp .ne 5, 3) := by decide +kernel
theorem dX8_readsEvent_42 : decode cX8_readsEvent 42 = .ok (.iconst 0, 1) := by decide +kernel
theorem dX8_readsEvent_43 : decode cX8_readsEvent 43 = .ok (.ireturn, 1) := by decide +kernel
theorem dX8_readsEvent_44 : decode cX8_readsEvent 44 = .ok (.aload_n 0, 1) := by decide +kernel
theorem dX8_readsEvent_45 : decode cX8_readsEvent 45 = .ok (.dup, 1) := by decide +kernel
theorem dX8_readsEvent_46 : decode cX8_readsEvent 46 = .ok (.getfield 140, 3) := by decide +kernel
theorem dX8_readsEvent_49 : decode cX8_readsEvent 49 = .ok (.iconst 1, 1) := by decide +kernel
theorem dX8_readsEvent_50 : decode cX8_readsEvent 50 = .ok (.iadd, 1) := by decide +kernel
theorem dX8_readsEvent_51 : decode cX8_readsEvent 51 = .ok (.putfield 140, 3) := by decide +kernel
theorem dX8_readsEvent_54 : decode cX8_readsEvent 54 = .ok (.iconst 4, 1) := by decide +kernel
theorem dX8_readsEvent_55 : decode cX8_readsEvent 55 = .ok (.aload_n 0, 1) := by decide +kernel
theorem dX8_readsEvent_56 : decode cX8_readsEvent 56 = .ok (.getfield 174, 3) := by decide +kernel
theorem dX8_readsEvent_59 : decode cX8_readsEvent 59 = .ok (.imul, 1) := by decide +kernel
theorem dX8_readsEvent_60 : decode cX8_readsEvent 60 = .ok (.istore 4, 2) := by decide +kernel
theorem dX8_readsEvent_62 : decode cX8_readsEvent 62 = .ok (.aload_n 0, 1) := by decide +kernel
theorem dX8_readsEvent_63 : decode cX8_readsEvent 63 = .ok (.getfield 50, 3) := by decide +kernel
theorem dX8_readsEvent_66 : decode cX8_readsEvent 66 = .ok (.iload 4, 2) := by decide +kernel
theorem dX8_readsEvent_68 : decode cX8_readsEvent 68 = .ok (.iload_n 3, 1) := by decide +kernel
theorem dX8_readsEvent_69 : decode cX8_readsEvent 69 = .ok (.iastore, 1) := by decide +kernel
theorem dX8_readsEvent_70 : decode cX8_readsEvent 70 = .ok (.aload_n 0, 1) := by decide +kernel
theorem dX8_readsEvent_71 : decode cX8_readsEvent 71 = .ok (.getfield 50, 3) := by decide +kernel
theorem dX8_readsEvent_74 : decode cX8_readsEvent 74 = .ok (.iload 4, 2) := by decide +kernel
theorem dX8_readsEvent_76 : decode cX8_readsEvent 76 = .ok (.iconst 2, 1) := by decide +kernel
theorem dX8_readsEvent_77 : decode cX8_readsEvent 77 = .ok (.iadd, 1) := by decide +kernel
theorem dX8_readsEvent_78 : decode cX8_readsEvent 78 = .ok (.iconst 0, 1) := by decide +kernel
theorem dX8_readsEvent_79 : decode cX8_readsEvent 79 = .ok (.iastore, 1) := by decide +kernel
theorem dX8_readsEvent_80 : decode cX8_readsEvent 80 = .ok (.aload_n 0, 1) := by decide +kernel
theorem dX8_readsEvent_81 : decode cX8_readsEvent 81 = .ok (.getfield 50, 3) := by decide +kernel
theorem dX8_readsEvent_84 : decode cX8_readsEvent 84 = .ok (.iload 4, 2) := by decide +kernel
theorem dX8_readsEvent_86 : decode cX8_readsEvent 86 = .ok (.iconst 3, 1) := by decide +kernel
theorem dX8_readsEvent_87 : decode cX8_readsEvent 87 = .ok (.iadd, 1) := by decide +kernel
theorem dX8_readsEvent_88 : decode cX8_readsEvent 88 = .ok (.iload_n 2, 1) := by decide +kernel
theorem dX8_readsEvent_89 : decode cX8_readsEvent 89 = .ok (.bipush 113, 2) := by decide +kernel
theorem dX8_readsEvent_91 : decode cX8_readsEvent 91 = .ok (.if_icmp .ne 7, 3) := by decide +kernel
theorem dX8_readsEvent_94 : decode cX8_readsEvent 94 = .ok (.iconst (-1), 1) := by decide +kernel
theorem dX8_readsEvent_95 : decode cX8_readsEvent 95 = .ok (.goto 14, 3) := by decide +kernel
theorem dX8_readsEvent_98 : decode cX8_readsEvent 98 = .ok (.iload_n 2, 1) := by decide +kernel
theorem dX8_readsEvent_99 : decode cX8_readsEvent 99 = .ok (.bipush 102, 2) := by decide +kernel
theorem dX8_readsEvent_101 : decode cX8_readsEvent 101 = .ok (.if_icmp .ne 7, 3) := by decide +kernel
theorem dX8_readsEvent_104 : decode cX8_readsEvent 104 = .ok (.iconst 1, 1) := by decide +kernel
theorem dX8_readsEvent_105 : decode cX8_readsEvent 105 = .ok (.goto 4, 3) := by decide +kernel
theorem dX8_readsEvent_108 : decode cX8_readsEvent 108 = .ok (.iconst 0, 1) := by decide +kernel
theorem dX8_readsEvent_109 : decode cX8_readsEvent 109 = .ok (.iastore, 1) := by decide +kernel
theorem dX8_readsEvent_110 : decode cX8_readsEvent 110 = .ok (.iload_n 3, 1) := by decide +kernel
theorem dX8_readsEvent_111 : decode cX8_readsEvent 111 = .ok (.iconst 1, 1) := by decide +kernel
theorem dX8_readsEvent_112 : decode cX8_readsEvent 112 = .ok (.if_icmp .eq 9, 3) := by decide +kernel
theorem dX8_readsEvent_115 : decode cX8_readsEvent 115 = .ok (.iload_n 3, 1) := by decide +kernel
theorem dX8_readsEvent_116 : decode cX8_readsEvent 116 = .ok (.bipush 6, 2) := by decide +kernel
theorem dX8_readsEvent_118 : decode cX8_readsEvent 118 = .ok (.if_icmp .ne 7, 3) := by decide +kernel
theorem dX8_readsEvent_121 : decode cX8_readsEvent 121 = .ok (.iconst 1, 1) := by decide +kernel
theorem dX8_readsEvent_122 : decode cX8_readsEvent 122 = .ok (.goto 4, 3) := by decide +kernel
theorem dX8_readsEvent_125 : decode cX8_readsEvent 125 = .ok (.iconst 0, 1) := by decide +kernel
theorem dX8_readsEvent_126 : decode cX8_readsEvent 126 = .ok (.istore 5, 2) := by decide +kernel
theorem dX8_readsEvent_128 : decode cX8_readsEvent 128 = .ok (.iload 5, 2) := by decide +kernel
theorem dX8_readsEvent_130 : decode cX8_readsEvent 130 = .ok (.ifCond .eq 20, 3) := by decide +kernel
theorem dX8_readsEvent_133 : decode cX8_readsEvent 133 = .ok (.aload_n 0, 1) := by decide +kernel
theorem dX8_readsEvent_134 : decode cX8_readsEvent 134 = .ok (.iload_n 1, 1) := by decide +kernel
theorem dX8_readsEvent_135 : decode cX8_readsEvent 135 = .ok (.aload_n 0, 1) := by decide +kernel
theorem dX8_readsEvent_136 : decode cX8_readsEvent 136 = .ok (.getfield 180, 3) := by decide +kernel
theorem dX8_readsEvent_139 : decode cX8_readsEvent 139 = .ok (.iconst 1, 1) := by decide +kernel
theorem dX8_readsEvent_140 : decode cX8_readsEvent 140 = .ok (.isub, 1) := by decide +kernel
theorem dX8_readsEvent_141 : decode cX8_readsEvent 141 = .ok (.invokevirtual 162, 3) := by decide +kernel
theorem dX8_readsEvent_144 : decode cX8_readsEvent 144 = .ok (.ifCond .eq 35, 3) := by decide +kernel
theorem dX8_readsEvent_147 : decode cX8_readsEvent 147 = .ok (.goto 34, 3) := by decide +kernel
theorem dX8_readsEvent_150 : decode cX8_readsEvent 150 = .ok (.aload_n 0, 1) := by decide +kernel
theorem dX8_readsEvent_151 : decode cX8_readsEvent 151 = .ok (.iload_n 1, 1) := by decide +kernel
theorem dX8_readsEvent_152 : decode cX8_readsEvent 152 = .ok (.iload_n 3, 1) := by decide +kernel
theorem dX8_readsEvent_153 : decode cX8_readsEvent 153 = .ok (.bipush 7, 2) := by decide +kernel
theorem dX8_readsEvent_155 : decode cX8_readsEvent 155 = .ok (.if_icmp .ne 12, 3) := by decide +kernel
theorem dX8_readsEvent_158 : decode cX8_readsEvent 158 = .ok (.aload_n 0, 1) := by decide +kernel
theorem dX8_readsEvent_159 : decode cX8_readsEvent 159 = .ok (.getfield 183, 3) := by decide +kernel
theorem dX8_readsEvent_162 : decode cX8_readsEvent 162 = .ok (.iconst 1, 1) := by decide +kernel
theorem dX8_readsEvent_163 : decode cX8_readsEvent 163 = .ok (.isub, 1) := by decide +kernel
theorem dX8_readsEvent_164 : decode cX8_readsEvent 164 = .ok (.goto 9, 3) := by decide +kernel
theorem dX8_readsEvent_167 : decode cX8_readsEvent 167 = .ok (.aload_n 0, 1) := by decide +kernel
theorem dX8_readsEvent_168 : decode cX8_readsEvent 168 = .ok (.getfield 177, 3) := by decide +kernel
theorem dX8_readsEvent_171 : decode cX8_readsEvent 171 = .ok (.iconst 1, 1) := by decide +kernel
theorem dX8_readsEvent_172 : decode cX8_readsEvent 172 = .ok (.isub, 1) := by decide +kernel
theorem dX8_readsEvent_173 : decode cX8_readsEvent 173 = .ok (.invokevirtual 152, 3) := by decide +kernel
theorem dX8_readsEvent_176 : decode cX8_readsEvent 176 = .ok (.ifCond .ne 5, 3) := by decide +kernel
theorem dX8_readsEvent_179 : decode cX8_readsEvent 179 = .ok (.iconst 0, 1) := by decide +kernel
theorem dX8_readsEvent_180 : decode cX8_readsEvent 180 = .ok (.ireturn, 1) := by decide +kernel
theorem dX8_readsEvent_181 : decode cX8_readsEvent 181 = .ok (.aload_n 0, 1) := by decide +kernel
theorem dX8_readsEvent_182 : decode cX8_readsEvent 182 = .ok (.getfield 50, 3) := by decide +kernel
theorem dX8_readsEvent_185 : decode cX8_readsEvent 185 = .ok (.iload 4, 2) := by decide +kernel
theorem dX8_readsEvent_187 : decode cX8_readsEvent 187 = .ok (.iconst 1, 1) := by decide +kernel
theorem dX8_readsEvent_188 : decode cX8_readsEvent 188 = .ok (.iadd, 1) := by decide +kernel
theorem dX8_readsEvent_189 : decode cX8_readsEvent 189 = .ok (.aload_n 0, 1) := by decide +kernel
theorem dX8_readsEvent_190 : decode cX8_readsEvent 190 = .ok (.getfield 146, 3) := by decide +kernel
theorem dX8_readsEvent_193 : decode cX8_readsEvent 193 = .ok (.iastore, 1) := by decide +kernel
theorem dX8_readsEvent_194 : decode cX8_readsEvent 194 = .ok (.iload_n 3, 1) := by decide +kernel
theorem dX8_readsEvent_195 : decode cX8_readsEvent 195 = .ok (.bipush 6, 2) := by decide +kernel
theorem dX8_readsEvent_197 : decode cX8_readsEvent 197 = .ok (.if_icmp .eq 126, 3) := by decide +kernel
theorem dX8_readsEvent_200 : decode cX8_readsEvent 200 = .ok (.iload_n 3, 1) := by decide +kernel
theorem dX8_readsEvent_201 : decode cX8_readsEvent 201 = .ok (.iconst 4, 1) := by decide +kernel
theorem dX8_readsEvent_202 : decode cX8_readsEvent 202 = .ok (.if_icmp .eq 8, 3) := by decide +kernel
theorem dX8_readsEvent_205 : decode cX8_readsEvent 205 = .ok (.iload_n 3, 1) := by decide +kernel
theorem dX8_readsEvent_206 : decode cX8_readsEvent 206 = .ok (.iconst 5, 1) := by decide +kernel
theorem dX8_readsEvent_207 : decode cX8_readsEvent 207 = .ok (.if_icmp .ne 7, 3) := by decide +kernel
theorem dX8_readsEvent_210 : decode cX8_readsEvent 210 = .ok (.iconst 1, 1) := by decide +kernel
theorem dX8_readsEvent_211 : decode cX8_readsEvent 211 = .ok (.goto 4, 3) := by decide +kernel
theorem dX8_readsEvent_214 : decode cX8_readsEvent 214 = .ok (.iconst 0, 1) := by decide +kernel
theorem dX8_readsEvent_215 : decode cX8_readsEvent 215 = .ok (.istore 6, 2) := by decide +kernel
theorem dX8_readsEvent_217 : decode cX8_readsEvent 217 = .ok (.aload_n 0, 1) := by decide +kernel
theorem dX8_readsEvent_218 : decode cX8_readsEvent 218 = .ok (.iload_n 1, 1) := by decide +kernel
theorem dX8_readsEvent_219 : decode cX8_readsEvent 219 = .ok (.iload 6, 2) := by decide +kernel
theorem dX8_readsEvent_221 : decode cX8_readsEvent 221 = .ok (.ifCond .eq 8, 3) := by decide +kernel
theorem dX8_readsEvent_224 : decode cX8_readsEvent 224 = .ok (.bipush 64, 2) := by decide +kernel
theorem dX8_readsEvent_226 : decode cX8_readsEvent 226 = .ok (.goto 16, 3) := by decide +kernel
theorem dX8_readsEvent_229 : decode cX8_readsEvent 229 = .ok (.iload_n 3, 1) := by decide +kernel
theorem dX8_readsEvent_230 : decode cX8_readsEvent 230 = .ok (.bipush 7, 2) := by decide +kernel
theorem dX8_readsEvent_232 : decode cX8_readsEvent 232 = .ok (.if_icmp .ne 8, 3) := by decide +kernel
theorem dX8_readsEvent_235 : decode cX8_readsEvent 235 = .ok (.bipush 47, 2) := by decide +kernel
theorem dX8_readsEvent_237 : decode cX8_readsEvent 237 = .ok (.goto 5, 3) := by decide +kernel
theorem dX8_readsEvent_240 : decode cX8_readsEvent 240 = .ok (.bipush 62, 2) := by decide +kernel
theorem dX8_readsEvent_242 : decode cX8_readsEvent 242 = .ok (.invokevirtual 159, 3) := by decide +kernel
theorem dX8_readsEvent_245 : decode cX8_readsEvent 245 = .ok (.ifCond .eq 39, 3) := by decide +kernel
theorem dX8_readsEvent_248 : decode cX8_readsEvent 248 = .ok (.iload 6, 2) := by decide +kernel
theorem dX8_readsEvent_250 : decode cX8_readsEvent 250 = .ok (.ifCond .eq 20, 3) := by decide +kernel
theorem dX8_readsEvent_253 : decode cX8_readsEvent 253 = .ok (.aload_n 0, 1) := by decide +kernel
theorem dX8_readsEvent_254 : decode cX8_readsEvent 254 = .ok (.iload_n 1, 1) := by decide +kernel
theorem dX8_readsEvent_255 : decode cX8_readsEvent 255 = .ok (.aload_n 0, 1) := by decide +kernel
theorem dX8_readsEvent_256 : decode cX8_readsEvent 256 = .ok (.getfield 180, 3) := by decide +kernel
theorem dX8_readsEvent_259 : decode cX8_readsEvent 259 = .ok (.iconst 1, 1) := by decide +kernel
theorem dX8_readsEvent_260 : decode cX8_readsEvent 260 = .ok (.isub, 1) := by decide +kernel
theorem dX8_readsEvent_261 : decode cX8_readsEvent 261 = .ok (.invokevirtual 162, 3) := by decide +kernel
theorem dX8_readsEvent_264 : decode cX8_readsEvent 264 = .ok (.ifCond .eq 20, 3) := by decide +kernel
theorem dX8_readsEvent_267 : decode cX8_readsEvent 267 = .ok (.goto 19, 3) := by decide +kernel
theorem dX8_readsEvent_270 : decode cX8_readsEvent 270 = .ok (.aload_n 0, 1) := by decide +kernel
theorem dX8_readsEvent_271 : decode cX8_readsEvent 271 = .ok (.iload_n 1, 1) := by decide +kernel
theorem dX8_readsEvent_272 : decode cX8_readsEvent 272 = .ok (.aload_n 0, 1) := by decide +kernel
theorem dX8_readsEvent_273 : decode cX8_readsEvent 273 = .ok (.getfield 183, 3) := by decide +kernel
theorem dX8_readsEvent_276 : decode cX8_readsEvent 276 = .ok (.iconst 1, 1) := by decide +kernel
theorem dX8_readsEvent_277 : decode cX8_readsEvent 277 = .ok (.isub, 1) := by decide +kernel
theorem dX8_readsEvent_278 : decode cX8_readsEvent 278 = .ok (.invokevirtual 152, 3) := by decide +kernel
theorem dX8_readsEvent_281 : decode cX8_readsEvent 281 = .ok (.ifCond .ne 5, 3) := by decide +kernel
theorem dX8_readsEvent_284 : decode cX8_readsEvent 284 = .ok (.iconst 0, 1) := by decide +kernel
theorem dX8_readsEvent_285 : decode cX8_readsEvent 285 = .ok (.ireturn, 1) := by decide +kernel
theorem dX8_readsEvent_286 : decode cX8_readsEvent 286 = .ok (.iload_n 3, 1) := by decide +kernel
theorem dX8_readsEvent_287 : decode cX8_readsEvent 287 = .ok (.bipush 7, 2) := by decide +kernel
theorem dX8_readsEvent_289 : decode cX8_readsEvent 289 = .ok (.if_icmp .ne 21, 3) := by decide +kernel
theorem dX8_readsEvent_292 : decode cX8_readsEvent 292 = .ok (.aload_n 0, 1) := by decide +kernel
theorem dX8_readsEvent_293 : decode cX8_readsEvent 293 = .ok (.getfield 146, 3) := by decide +kernel
theorem dX8_readsEvent_296 : decode cX8_readsEvent 296 = .ok (.aload_n 0, 1) := by decide +kernel
theorem dX8_readsEvent_297 : decode cX8_readsEvent 297 = .ok (.getfield 50, 3) := by decide +kernel
theorem dX8_readsEvent_300 : decode cX8_readsEvent 300 = .ok (.iload 4, 2) := by decide +kernel
theorem dX8_readsEvent_302 : decode cX8_readsEvent 302 = .ok (.iconst 1, 1) := by decide +kernel
theorem dX8_readsEvent_303 : decode cX8_readsEvent 303 = .ok (.iadd, 1) := by decide +kernel
theorem dX8_readsEvent_304 : decode cX8_readsEvent 304 = .ok (.iaload, 1) := by decide +kernel
theorem dX8_readsEvent_305 : decode cX8_readsEvent 305 = .ok (.if_icmp .ne 5, 3) := by decide +kernel
theorem dX8_readsEvent_308 : decode cX8_readsEvent 308 = .ok (.iconst 0, 1) := by decide +kernel
theorem dX8_readsEvent_309 : decode cX8_readsEvent 309 = .ok (.ireturn, 1) := by decide +kernel
theorem dX8_readsEvent_310 : decode cX8_readsEvent 310 = .ok (.aload_n 0, 1) := by decide +kernel
theorem dX8_readsEvent_311 : decode cX8_readsEvent 311 = .ok (.getfield 50, 3) := by decide +kernel
theorem dX8_readsEvent_314 : decode cX8_readsEvent 314 = .ok (.iload 4, 2) := by decide +kernel
theorem dX8_readsEvent_316 : decode cX8_readsEvent 316 = .ok (.iconst 2, 1) := by decide +kernel
theorem dX8_readsEvent_317 : decode cX8_readsEvent 317 = .ok (.iadd, 1) := by decide +kernel
theorem dX8_readsEvent_318 : decode cX8_readsEvent 318 = .ok (.aload_n 0, 1) := by decide +kernel
theorem dX8_readsEvent_319 : decode cX8_readsEvent 319 = .ok (.getfield 146, 3) := by decide +kernel
theorem dX8_readsEvent_322 : decode cX8_readsEvent 322 = .ok (.iastore, 1) := by decide +kernel
theorem dX8_readsEvent_323 : decode cX8_readsEvent 323 = .ok (.aload_n 0, 1) := by decide +kernel
theorem dX8_readsEvent_324 : decode cX8_readsEvent 324 = .ok (.dup, 1) := by decide +kernel
theorem dX8_readsEvent_325 : decode cX8_readsEvent 325 = .ok (.getfield 174, 3) := by decide +kernel
theorem dX8_readsEvent_328 : decode cX8_readsEvent 328 = .ok (.iconst 1, 1) := by decide +kernel
theorem dX8_readsEvent_329 : decode cX8_readsEvent 329 = .ok (.iadd, 1) := by decide +kernel
theorem dX8_readsEvent_330 : decode cX8_readsEvent 330 = .ok (.putfield 174, 3) := by decide +kernel
theorem dX8_readsEvent_333 : decode cX8_readsEvent 333 = .ok (.aload_n 0, 1) := by decide +kernel
theorem dX8_readsEvent_334 : decode cX8_readsEvent 334 = .ok (.dup, 1) := by decide +kernel
theorem dX8_readsEvent_335 : decode cX8_readsEvent 335 = .ok (.getfield 177, 3) := by decide +kernel
theorem dX8_readsEvent_338 : decode cX8_readsEvent 338 = .ok (.iload_n 3, 1) := by decide +kernel
theorem dX8_readsEvent_339 : decode cX8_readsEvent 339 = .ok (.iconst 2, 1) := by decide +kernel
theorem dX8_readsEvent_340 : decode cX8_readsEvent 340 = .ok (.if_icmp .gt 7, 3) := by decide +kernel
theorem dX8_readsEvent_343 : decode cX8_readsEvent 343 = .ok (.iconst 1, 1) := by decide +kernel
theorem dX8_readsEvent_344 : decode cX8_readsEvent 344 = .ok (.goto 4, 3) := by decide +kernel
theorem dX8_readsEvent_347 : decode cX8_readsEvent 347 = .ok (.iconst 0, 1) := by decide +kernel
theorem dX8_readsEvent_348 : decode cX8_readsEvent 348 = .ok (.iadd, 1) := by decide +kernel
theorem dX8_readsEvent_349 : decode cX8_readsEvent 349 = .ok (.putfield 177, 3) := by decide +kernel
theorem dX8_readsEvent_352 : decode cX8_readsEvent 352 = .ok (.iconst 1, 1) := by decide +kernel
theorem dX8_readsEvent_353 : decode cX8_readsEvent 353 = .ok (.ireturn, 1) := by decide +kernel
theorem dX8_yearFault_0 : decode cX8_yearFault 0 = .ok (.aload_n 0, 1) := by decide +kernel
theorem dX8_yearFault_1 : decode cX8_yearFault 1 = .ok (.iconst 0, 1) := by decide +kernel
theorem dX8_yearFault_2 : decode cX8_yearFault 2 = .ok (.putfield 140, 3) := by decide +kernel
theorem dX8_yearFault_5 : decode cX8_yearFault 5 = .ok (.aload_n 0, 1) := by decide +kernel
theorem dX8_yearFault_6 : decode cX8_yearFault 6 = .ok (.aload_n 0, 1) := by decide +kernel
theorem dX8_yearFault_7 : decode cX8_yearFault 7 = .ok (.getfield 186, 3) := by decide +kernel
theorem dX8_yearFault_10 : decode cX8_yearFault 10 = .ok (.putfield 174, 3) := by decide +kernel
theorem dX8_yearFault_13 : decode cX8_yearFault 13 = .ok (.aload_n 0, 1) := by decide +kernel
theorem dX8_yearFault_14 : decode cX8_yearFault 14 = .ok (.aload_n 0, 1) := by decide +kernel
theorem dX8_yearFault_15 : decode cX8_yearFault 15 = .ok (.getfield 189, 3) := by decide +kernel
theorem dX8_yearFault_18 : decode cX8_yearFault 18 = .ok (.putfield 177, 3) := by decide +kernel
theorem dX8_yearFault_21 : decode cX8_yearFault 21 = .ok (.aload_n 0, 1) := by decide +kernel
theorem dX8_yearFault_22 : decode cX8_yearFault 22 = .ok (.getfield 140, 3) := by decide +kernel
theorem dX8_yearFault_25 : decode cX8_yearFault 25 = .ok (.aload_n 0, 1) := by decide +kernel
theorem dX8_yearFault_26 : decode cX8_yearFault 26 = .ok (.getfield 22, 3) := by decide +kernel
theorem dX8_yearFault_29 : decode cX8_yearFault 29 = .ok (.iload_n 1, 1) := by decide +kernel
theorem dX8_yearFault_30 : decode cX8_yearFault 30 = .ok (.iaload, 1) := by decide +kernel
theorem dX8_yearFault_31 : decode cX8_yearFault 31 = .ok (.if_icmp .ge 43, 3) := by decide +kernel
theorem dX8_yearFault_34 : decode cX8_yearFault 34 = .ok (.aload_n 0, 1) := by decide +kernel
theorem dX8_yearFault_35 : decode cX8_yearFault 35 = .ok (.iload_n 1, 1) := by decide +kernel
theorem dX8_yearFault_36 : decode cX8_yearFault 36 = .ok (.aload_n 0, 1) := by decide +kernel
theorem dX8_yearFault_37 : decode cX8_yearFault 37 = .ok (.getfield 140, 3) := by decide +kernel
theorem dX8_yearFault_40 : decode cX8_yearFault 40 = .ok (.invokevirtual 143, 3) := by decide +kernel
theorem dX8_yearFault_43 : decode cX8_yearFault 43 = .ok (.bipush 32, 2) := by decide +kernel
theorem dX8_yearFault_45 : decode cX8_yearFault 45 = .ok (.if_icmp .ne 16, 3) := by decide +kernel
theorem dX8_yearFault_48 : decode cX8_yearFault 48 = .ok (.aload_n 0, 1) := by decide +kernel
theorem dX8_yearFault_49 : decode cX8_yearFault 49 = .ok (.dup, 1) := by decide +kernel
theorem dX8_yearFault_50 : decode cX8_yearFault 50 = .ok (.getfield 140, 3) := by decide +kernel
theorem dX8_yearFault_53 : decode cX8_yearFault 53 = .ok (.iconst 1, 1) := by decide +kernel
theorem dX8_yearFault_54 : decode cX8_yearFault 54 = .ok (.iadd, 1) := by decide +kernel
theorem dX8_yearFault_55 : decode cX8_yearFault 55 = .ok (.putfield 140, 3) := by decide +kernel
theorem dX8_yearFault_58 : decode cX8_yearFault 58 = .ok (.goto (-37), 3) := by decide +kernel
theorem dX8_yearFault_61 : decode cX8_yearFault 61 = .ok (.aload_n 0, 1) := by decide +kernel
theorem dX8_yearFault_62 : decode cX8_yearFault 62 = .ok (.iload_n 1, 1) := by decide +kernel
theorem dX8_yearFault_63 : decode cX8_yearFault 63 = .ok (.invokevirtual 192, 3) := by decide +kernel
theorem dX8_yearFault_66 : decode cX8_yearFault 66 = .ok (.ifCond .ne (-45), 3) := by decide +kernel
theorem dX8_yearFault_69 : decode cX8_yearFault 69 = .ok (.aload_n 0, 1) := by decide +kernel
theorem dX8_yearFault_70 : decode cX8_yearFault 70 = .ok (.getfield 140, 3) := by decide +kernel
theorem dX8_yearFault_73 : decode cX8_yearFault 73 = .ok (.ireturn, 1) := by decide +kernel
theorem dX8_yearFault_74 : decode cX8_yearFault 74 = .ok (.bipush (-9), 2) := by decide +kernel
theorem dX8_yearFault_76 : decode cX8_yearFault 76 = .ok (.ireturn, 1) := by decide +kernel
theorem dX8_fault_0 : decode cX8_fault 0 = .ok (.iload_n 1, 1) := by decide +kernel
theorem dX8_fault_1 : decode cX8_fault 1 = .ok (.invokestatic 137, 3) := by decide +kernel
theorem dX8_fault_4 : decode cX8_fault 4 = .ok (.ifCond .ne 5, 3) := by decide +kernel
theorem dX8_fault_7 : decode cX8_fault 7 = .ok (.iconst (-1), 1) := by decide +kernel
theorem dX8_fault_8 : decode cX8_fault 8 = .ok (.ireturn, 1) := by decide +kernel
theorem dX8_fault_9 : decode cX8_fault 9 = .ok (.aload_n 0, 1) := by decide +kernel
theorem dX8_fault_10 : decode cX8_fault 10 = .ok (.getfield 22, 3) := by decide +kernel
theorem dX8_fault_13 : decode cX8_fault 13 = .ok (.iload_n 1, 1) := by decide +kernel
theorem dX8_fault_14 : decode cX8_fault 14 = .ok (.iaload, 1) := by decide +kernel
theorem dX8_fault_15 : decode cX8_fault 15 = .ok (.ifCond .ge 11, 3) := by decide +kernel
theorem dX8_fault_18 : decode cX8_fault 18 = .ok (.aload_n 0, 1) := by decide +kernel
theorem dX8_fault_19 : decode cX8_fault 19 = .ok (.iconst 1, 1) := by decide +kernel
theorem dX8_fault_20 : decode cX8_fault 20 = .ok (.invokevirtual 126, 3) := by decide +kernel
theorem dX8_fault_23 : decode cX8_fault 23 = .ok (.goto 20, 3) := by decide +kernel
theorem dX8_fault_26 : decode cX8_fault 26 = .ok (.iload_n 2, 1) := by decide +kernel
theorem dX8_fault_27 : decode cX8_fault 27 = .ok (.ifCond .eq 11, 3) := by decide +kernel
theorem dX8_fault_30 : decode cX8_fault 30 = .ok (.aload_n 0, 1) := by decide +kernel
theorem dX8_fault_31 : decode cX8_fault 31 = .ok (.iload_n 1, 1) := by decide +kernel
theorem dX8_fault_32 : decode cX8_fault 32 = .ok (.invokevirtual 195, 3) := by decide +kernel
theorem dX8_fault_35 : decode cX8_fault 35 = .ok (.goto 8, 3) := by decide +kernel
theorem dX8_fault_38 : decode cX8_fault 38 = .ok (.aload_n 0, 1) := by decide +kernel
theorem dX8_fault_39 : decode cX8_fault 39 = .ok (.iload_n 1, 1) := by decide +kernel
theorem dX8_fault_40 : decode cX8_fault 40 = .ok (.invokevirtual 198, 3) := by decide +kernel
theorem dX8_fault_43 : decode cX8_fault 43 = .ok (.ireturn, 1) := by decide +kernel
theorem dX8_street_0 : decode cX8_street 0 = .ok (.iload_n 1, 1) := by decide +kernel
theorem dX8_street_1 : decode cX8_street 1 = .ok (.invokestatic 137, 3) := by decide +kernel
theorem dX8_street_4 : decode cX8_street 4 = .ok (.ifCond .ne 5, 3) := by decide +kernel
theorem dX8_street_7 : decode cX8_street 7 = .ok (.iconst (-1), 1) := by decide +kernel
theorem dX8_street_8 : decode cX8_street 8 = .ok (.ireturn, 1) := by decide +kernel
theorem dX8_street_9 : decode cX8_street 9 = .ok (.aload_n 0, 1) := by decide +kernel
theorem dX8_street_10 : decode cX8_street 10 = .ok (.getfield 22, 3) := by decide +kernel
theorem dX8_street_13 : decode cX8_street 13 = .ok (.iload_n 1, 1) := by decide +kernel
theorem dX8_street_14 : decode cX8_street 14 = .ok (.iaload, 1) := by decide +kernel
theorem dX8_street_15 : decode cX8_street 15 = .ok (.ifCond .ge 9, 3) := by decide +kernel
theorem dX8_street_18 : decode cX8_street 18 = .ok (.aload_n 0, 1) := by decide +kernel
theorem dX8_street_19 : decode cX8_street 19 = .ok (.iconst 1, 1) := by decide +kernel
theorem dX8_street_20 : decode cX8_street 20 = .ok (.invokevirtual 126, 3) := by decide +kernel
theorem dX8_street_23 : decode cX8_street 23 = .ok (.ireturn, 1) := by decide +kernel
theorem dX8_street_24 : decode cX8_street 24 = .ok (.aload_n 0, 1) := by decide +kernel
theorem dX8_street_25 : decode cX8_street 25 = .ok (.iload_n 1, 1) := by decide +kernel
theorem dX8_street_26 : decode cX8_street 26 = .ok (.invokevirtual 198, 3) := by decide +kernel
theorem dX8_street_29 : decode cX8_street 29 = .ok (.bipush (-9), 2) := by decide +kernel
theorem dX8_street_31 : decode cX8_street 31 = .ok (.if_icmp .eq 6, 3) := by decide +kernel
theorem dX8_street_34 : decode cX8_street 34 = .ok (.bipush (-4), 2) := by decide +kernel
theorem dX8_street_36 : decode cX8_street 36 = .ok (.ireturn, 1) := by decide +kernel
theorem dX8_street_37 : decode cX8_street 37 = .ok (.aload_n 0, 1) := by decide +kernel
theorem dX8_street_38 : decode cX8_street 38 = .ok (.aload_n 0, 1) := by decide +kernel
theorem dX8_street_39 : decode cX8_street 39 = .ok (.getfield 149, 3) := by decide +kernel
theorem dX8_street_42 : decode cX8_street 42 = .ok (.putfield 180, 3) := by decide +kernel
theorem dX8_street_45 : decode cX8_street 45 = .ok (.aload_n 0, 1) := by decide +kernel
theorem dX8_street_46 : decode cX8_street 46 = .ok (.aload_n 0, 1) := by decide +kernel
theorem dX8_street_47 : decode cX8_street 47 = .ok (.getfield 156, 3) := by decide +kernel
theorem dX8_street_50 : decode cX8_street 50 = .ok (.putfield 183, 3) := by decide +kernel
theorem dX8_street_53 : decode cX8_street 53 = .ok (.iconst 0, 1) := by decide +kernel
theorem dX8_street_54 : decode cX8_street 54 = .ok (.istore_n 2, 1) := by decide +kernel
theorem dX8_street_55 : decode cX8_street 55 = .ok (.iload_n 2, 1) := by decide +kernel
theorem dX8_street_56 : decode cX8_street 56 = .ok (.bipush 12, 2) := by decide +kernel
theorem dX8_street_58 : decode cX8_street 58 = .ok (.if_icmp .ge 51, 3) := by decide +kernel
theorem dX8_street_61 : decode cX8_street 61 = .ok (.aload_n 0, 1) := by decide +kernel
theorem dX8_street_62 : decode cX8_street 62 = .ok (.getfield 32, 3) := by decide +kernel
theorem dX8_street_65 : decode cX8_street 65 = .ok (.iload_n 2, 1) := by decide +kernel
theorem dX8_street_66 : decode cX8_street 66 = .ok (.aload_n 0, 1) := by decide +kernel
theorem dX8_street_67 : decode cX8_street 67 = .ok (.getfield 41, 3) := by decide +kernel
theorem dX8_street_70 : decode cX8_street 70 = .ok (.iload_n 2, 1) := by decide +kernel
theorem dX8_street_71 : decode cX8_street 71 = .ok (.iaload, 1) := by decide +kernel
theorem dX8_street_72 : decode cX8_street 72 = .ok (.iastore, 1) := by decide +kernel
theorem dX8_street_73 : decode cX8_street 73 = .ok (.aload_n 0, 1) := by decide +kernel
theorem dX8_street_74 : decode cX8_street 74 = .ok (.getfield 35, 3) := by decide +kernel
theorem dX8_street_77 : decode cX8_street 77 = .ok (.iload_n 2, 1) := by decide +kernel
theorem dX8_street_78 : decode cX8_street 78 = .ok (.aload_n 0, 1) := by decide +kernel
theorem dX8_street_79 : decode cX8_street 79 = .ok (.getfield 44, 3) := by decide +kernel
theorem dX8_street_82 : decode cX8_street 82 = .ok (.iload_n 2, 1) := by decide +kernel
theorem dX8_street_83 : decode cX8_street 83 = .ok (.iaload, 1) := by decide +kernel
theorem dX8_street_84 : decode cX8_street 84 = .ok (.iastore, 1) := by decide +kernel
theorem dX8_street_85 : decode cX8_street 85 = .ok (.iload_n 2, 1) := by decide +kernel
theorem dX8_street_86 : decode cX8_street 86 = .ok (.bipush 6, 2) := by decide +kernel
theorem dX8_street_88 : decode cX8_street 88 = .ok (.if_icmp .ge 15, 3) := by decide +kernel
theorem dX8_street_91 : decode cX8_street 91 = .ok (.aload_n 0, 1) := by decide +kernel
theorem dX8_street_92 : decode cX8_street 92 = .ok (.getfield 29, 3) := by decide +kernel
theorem dX8_street_95 : decode cX8_street 95 = .ok (.iload_n 2, 1) := by decide +kernel
theorem dX8_street_96 : decode cX8_street 96 = .ok (.aload_n 0, 1) := by decide +kernel
theorem dX8_street_97 : decode cX8_street 97 = .ok (.getfield 38, 3) := by decide +kernel
theorem dX8_street_100 : decode cX8_street 100 = .ok (.iload_n 2, 1) := by decide +kernel
theorem dX8_street_101 : decode cX8_street 101 = .ok (.iaload, 1) := by decide +kernel
theorem dX8_street_102 : decode cX8_street 102 = .ok (.iastore, 1) := by decide +kernel
theorem dX8_street_103 : decode cX8_street 103 = .ok (.iinc 2 1, 3) := by decide +kernel
theorem dX8_street_106 : decode cX8_street 106 = .ok (.goto (-51), 3) := by decide +kernel
theorem dX8_street_109 : decode cX8_street 109 = .ok (.aload_n 0, 1) := by decide +kernel
theorem dX8_street_110 : decode cX8_street 110 = .ok (.iconst 0, 1) := by decide +kernel
theorem dX8_street_111 : decode cX8_street 111 = .ok (.putfield 186, 3) := by decide +kernel
theorem dX8_street_114 : decode cX8_street 114 = .ok (.aload_n 0, 1) := by decide +kernel
theorem dX8_street_115 : decode cX8_street 115 = .ok (.invokevirtual 201, 3) := by decide +kernel
theorem dX8_street_118 : decode cX8_street 118 = .ok (.aload_n 0, 1) := by decide +kernel
theorem dX8_street_119 : decode cX8_street 119 = .ok (.getfield 180, 3) := by decide +kernel
theorem dX8_street_122 : decode cX8_street 122 = .ok (.ireturn, 1) := by decide +kernel
theorem dX8_year_0 : decode cX8_year 0 = .ok (.iload_n 1, 1) := by decide +kernel
theorem dX8_year_1 : decode cX8_year 1 = .ok (.invokestatic 137, 3) := by decide +kernel
theorem dX8_year_4 : decode cX8_year 4 = .ok (.ifCond .ne 5, 3) := by decide +kernel
theorem dX8_year_7 : decode cX8_year 7 = .ok (.iconst (-1), 1) := by decide +kernel
theorem dX8_year_8 : decode cX8_year 8 = .ok (.ireturn, 1) := by decide +kernel
theorem dX8_year_9 : decode cX8_year 9 = .ok (.aload_n 0, 1) := by decide +kernel
theorem dX8_year_10 : decode cX8_year 10 = .ok (.getfield 22, 3) := by decide +kernel
theorem dX8_year_13 : decode cX8_year 13 = .ok (.iload_n 1, 1) := by decide +kernel
theorem dX8_year_14 : decode cX8_year 14 = .ok (.iaload, 1) := by decide +kernel
theorem dX8_year_15 : decode cX8_year 15 = .ok (.ifCond .ge 9, 3) := by decide +kernel
theorem dX8_year_18 : decode cX8_year 18 = .ok (.aload_n 0, 1) := by decide +kernel
theorem dX8_year_19 : decode cX8_year 19 = .ok (.iconst 1, 1) := by decide +kernel
theorem dX8_year_20 : decode cX8_year 20 = .ok (.invokevirtual 126, 3) := by decide +kernel
theorem dX8_year_23 : decode cX8_year 23 = .ok (.ireturn, 1) := by decide +kernel
theorem dX8_year_24 : decode cX8_year 24 = .ok (.aload_n 0, 1) := by decide +kernel
theorem dX8_year_25 : decode cX8_year 25 = .ok (.iload_n 1, 1) := by decide +kernel
theorem dX8_year_26 : decode cX8_year 26 = .ok (.invokevirtual 195, 3) := by decide +kernel
theorem dX8_year_29 : decode cX8_year 29 = .ok (.bipush (-9), 2) := by decide +kernel
theorem dX8_year_31 : decode cX8_year 31 = .ok (.if_icmp .eq 6, 3) := by decide +kernel
theorem dX8_year_34 : decode cX8_year 34 = .ok (.bipush (-4), 2) := by decide +kernel
theorem dX8_year_36 : decode cX8_year 36 = .ok (.ireturn, 1) := by decide +kernel
theorem dX8_year_37 : decode cX8_year 37 = .ok (.aload_n 0, 1) := by decide +kernel
theorem dX8_year_38 : decode cX8_year 38 = .ok (.getfield 174, 3) := by decide +kernel
theorem dX8_year_41 : decode cX8_year 41 = .ok (.aload_n 0, 1) := by decide +kernel
theorem dX8_year_42 : decode cX8_year 42 = .ok (.getfield 186, 3) := by decide +kernel
theorem dX8_year_45 : decode cX8_year 45 = .ok (.isub, 1) := by decide +kernel
theorem dX8_year_46 : decode cX8_year 46 = .ok (.istore_n 2, 1) := by decide +kernel
theorem dX8_year_47 : decode cX8_year 47 = .ok (.iconst 4, 1) := by decide +kernel
theorem dX8_year_48 : decode cX8_year 48 = .ok (.aload_n 0, 1) := by decide +kernel
theorem dX8_year_49 : decode cX8_year 49 = .ok (.getfield 186, 3) := by decide +kernel
theorem dX8_year_52 : decode cX8_year 52 = .ok (.imul, 1) := by decide +kernel
theorem dX8_year_53 : decode cX8_year 53 = .ok (.istore_n 3, 1) := by decide +kernel
theorem dX8_year_54 : decode cX8_year 54 = .ok (.iload_n 3, 1) := by decide +kernel
theorem dX8_year_55 : decode cX8_year 55 = .ok (.iconst 4, 1) := by decide +kernel
theorem dX8_year_56 : decode cX8_year 56 = .ok (.aload_n 0, 1) := by decide +kernel
theorem dX8_year_57 : decode cX8_year 57 = .ok (.getfield 174, 3) := by decide +kernel
theorem dX8_year_60 : decode cX8_year 60 = .ok (.imul, 1) := by decide +kernel
theorem dX8_year_61 : decode cX8_year 61 = .ok (.if_icmp .ge 21, 3) := by decide +kernel
theorem dX8_year_64 : decode cX8_year 64 = .ok (.aload_n 0, 1) := by decide +kernel
theorem dX8_year_65 : decode cX8_year 65 = .ok (.getfield 47, 3) := by decide +kernel
theorem dX8_year_68 : decode cX8_year 68 = .ok (.iload_n 3, 1) := by decide +kernel
theorem dX8_year_69 : decode cX8_year 69 = .ok (.aload_n 0, 1) := by decide +kernel
theorem dX8_year_70 : decode cX8_year 70 = .ok (.getfield 50, 3) := by decide +kernel
theorem dX8_year_73 : decode cX8_year 73 = .ok (.iload_n 3, 1) := by decide +kernel
theorem dX8_year_74 : decode cX8_year 74 = .ok (.iaload, 1) := by decide +kernel
theorem dX8_year_75 : decode cX8_year 75 = .ok (.iastore, 1) := by decide +kernel
theorem dX8_year_76 : decode cX8_year 76 = .ok (.iinc 3 1, 3) := by decide +kernel
theorem dX8_year_79 : decode cX8_year 79 = .ok (.goto (-25), 3) := by decide +kernel
theorem dX8_year_82 : decode cX8_year 82 = .ok (.aload_n 0, 1) := by decide +kernel
theorem dX8_year_83 : decode cX8_year 83 = .ok (.aload_n 0, 1) := by decide +kernel
theorem dX8_year_84 : decode cX8_year 84 = .ok (.getfield 174, 3) := by decide +kernel
theorem dX8_year_87 : decode cX8_year 87 = .ok (.putfield 186, 3) := by decide +kernel
theorem dX8_year_90 : decode cX8_year 90 = .ok (.aload_n 0, 1) := by decide +kernel
theorem dX8_year_91 : decode cX8_year 91 = .ok (.invokevirtual 201, 3) := by decide +kernel
theorem dX8_year_94 : decode cX8_year 94 = .ok (.iload_n 2, 1) := by decide +kernel
theorem dX8_year_95 : decode cX8_year 95 = .ok (.ireturn, 1) := by decide +kernel
theorem dX8_isHouse_0 : decode cX8_isHouse 0 = .ok (.iload_n 1, 1) := by decide +kernel
theorem dX8_isHouse_1 : decode cX8_isHouse 1 = .ok (.iconst 0, 1) := by decide +kernel
theorem dX8_isHouse_2 : decode cX8_isHouse 2 = .ok (.aload_n 0, 1) := by decide +kernel
theorem dX8_isHouse_3 : decode cX8_isHouse 3 = .ok (.getfield 180, 3) := by decide +kernel
theorem dX8_isHouse_6 : decode cX8_isHouse 6 = .ok (.iconst 1, 1) := by decide +kernel
theorem dX8_isHouse_7 : decode cX8_isHouse 7 = .ok (.isub, 1) := by decide +kernel
theorem dX8_isHouse_8 : decode cX8_isHouse 8 = .ok (.invokestatic 112, 3) := by decide +kernel
theorem dX8_isHouse_11 : decode cX8_isHouse 11 = .ok (.ireturn, 1) := by decide +kernel
theorem dX8_isPerson_0 : decode cX8_isPerson 0 = .ok (.iload_n 1, 1) := by decide +kernel
theorem dX8_isPerson_1 : decode cX8_isPerson 1 = .ok (.iconst 0, 1) := by decide +kernel
theorem dX8_isPerson_2 : decode cX8_isPerson 2 = .ok (.aload_n 0, 1) := by decide +kernel
theorem dX8_isPerson_3 : decode cX8_isPerson 3 = .ok (.getfield 183, 3) := by decide +kernel
theorem dX8_isPerson_6 : decode cX8_isPerson 6 = .ok (.iconst 1, 1) := by decide +kernel
theorem dX8_isPerson_7 : decode cX8_isPerson 7 = .ok (.isub, 1) := by decide +kernel
theorem dX8_isPerson_8 : decode cX8_isPerson 8 = .ok (.invokestatic 112, 3) := by decide +kernel
theorem dX8_isPerson_11 : decode cX8_isPerson 11 = .ok (.ireturn, 1) := by decide +kernel
theorem dX8_isKey_0 : decode cX8_isKey 0 = .ok (.iload_n 1, 1) := by decide +kernel
theorem dX8_isKey_1 : decode cX8_isKey 1 = .ok (.iconst 0, 1) := by decide +kernel
theorem dX8_isKey_2 : decode cX8_isKey 2 = .ok (.aload_n 0, 1) := by decide +kernel
theorem dX8_isKey_3 : decode cX8_isKey 3 = .ok (.getfield 189, 3) := by decide +kernel
theorem dX8_isKey_6 : decode cX8_isKey 6 = .ok (.iconst 1, 1) := by decide +kernel
theorem dX8_isKey_7 : decode cX8_isKey 7 = .ok (.isub, 1) := by decide +kernel
theorem dX8_isKey_8 : decode cX8_isKey 8 = .ok (.invokestatic 112, 3) := by decide +kernel
theorem dX8_isKey_11 : decode cX8_isKey 11 = .ok (.ireturn, 1) := by decide +kernel
theorem dX8_isEventTold_0 : decode cX8_isEventTold 0 = .ok (.iload_n 1, 1) := by decide +kernel
theorem dX8_isEventTold_1 : decode cX8_isEventTold 1 = .ok (.tableswitch 186 1 7 #[43, 65, 87, 109, 131, 153, 159], 43) := by decide +kernel
theorem dX8_isEventTold_44 : decode cX8_isEventTold 44 = .ok (.aload_n 0, 1) := by decide +kernel
theorem dX8_isEventTold_45 : decode cX8_isEventTold 45 = .ok (.iload_n 2, 1) := by decide +kernel
theorem dX8_isEventTold_46 : decode cX8_isEventTold 46 = .ok (.invokevirtual 204, 3) := by decide +kernel
theorem dX8_isEventTold_49 : decode cX8_isEventTold 49 = .ok (.ifCond .eq 15, 3) := by decide +kernel
theorem dX8_isEventTold_52 : decode cX8_isEventTold 52 = .ok (.aload_n 0, 1) := by decide +kernel
theorem dX8_isEventTold_53 : decode cX8_isEventTold 53 = .ok (.iload_n 3, 1) := by decide +kernel
theorem dX8_isEventTold_54 : decode cX8_isEventTold 54 = .ok (.invokevirtual 207, 3) := by decide +kernel
theorem dX8_isEventTold_57 : decode cX8_isEventTold 57 = .ok (.ifCond .eq 7, 3) := by decide +kernel
theorem dX8_isEventTold_60 : decode cX8_isEventTold 60 = .ok (.iconst 1, 1) := by decide +kernel
theorem dX8_isEventTold_61 : decode cX8_isEventTold 61 = .ok (.goto 4, 3) := by decide +kernel
theorem dX8_isEventTold_64 : decode cX8_isEventTold 64 = .ok (.iconst 0, 1) := by decide +kernel
theorem dX8_isEventTold_65 : decode cX8_isEventTold 65 = .ok (.ireturn, 1) := by decide +kernel
theorem dX8_isEventTold_66 : decode cX8_isEventTold 66 = .ok (.aload_n 0, 1) := by decide +kernel
theorem dX8_isEventTold_67 : decode cX8_isEventTold 67 = .ok (.iload_n 2, 1) := by decide +kernel
theorem dX8_isEventTold_68 : decode cX8_isEventTold 68 = .ok (.invokevirtual 210, 3) := by decide +kernel
theorem dX8_isEventTold_71 : decode cX8_isEventTold 71 = .ok (.ifCond .eq 15, 3) := by decide +kernel
theorem dX8_isEventTold_74 : decode cX8_isEventTold 74 = .ok (.aload_n 0, 1) := by decide +kernel
theorem dX8_isEventTold_75 : decode cX8_isEventTold 75 = .ok (.iload_n 3, 1) := by decide +kernel
theorem dX8_isEventTold_76 : decode cX8_isEventTold 76 = .ok (.invokevirtual 207, 3) := by decide +kernel
theorem dX8_isEventTold_79 : decode cX8_isEventTold 79 = .ok (.ifCond .eq 7, 3) := by decide +kernel
theorem dX8_isEventTold_82 : decode cX8_isEventTold 82 = .ok (.iconst 1, 1) := by decide +kernel
theorem dX8_isEventTold_83 : decode cX8_isEventTold 83 = .ok (.goto 4, 3) := by decide +kernel
theorem dX8_isEventTold_86 : decode cX8_isEventTold 86 = .ok (.iconst 0, 1) := by decide +kernel
theorem dX8_isEventTold_87 : decode cX8_isEventTold 87 = .ok (.ireturn, 1) := by decide +kernel
theorem dX8_isEventTold_88 : decode cX8_isEventTold 88 = .ok (.aload_n 0, 1) := by decide +kernel
theorem dX8_isEventTold_89 : decode cX8_isEventTold 89 = .ok (.iload_n 2, 1) := by decide +kernel
theorem dX8_isEventTold_90 : decode cX8_isEventTold 90 = .ok (.invokevirtual 210, 3) := by decide +kernel
theorem dX8_isEventTold_93 : decode cX8_isEventTold 93 = .ok (.ifCond .eq 15, 3) := by decide +kernel
theorem dX8_isEventTold_96 : decode cX8_isEventTold 96 = .ok (.aload_n 0, 1) := by decide +kernel
theorem dX8_isEventTold_97 : decode cX8_isEventTold 97 = .ok (.iload_n 3, 1) := by decide +kernel
theorem dX8_isEventTold_98 : decode cX8_isEventTold 98 = .ok (.invokevirtual 207, 3) := by decide +kernel
theorem dX8_isEventTold_101 : decode cX8_isEventTold 101 = .ok (.ifCond .eq 7, 3) := by decide +kernel
theorem dX8_isEventTold_104 : decode cX8_isEventTold 104 = .ok (.iconst 1, 1) := by decide +kernel
theorem dX8_isEventTold_105 : decode cX8_isEventTold 105 = .ok (.goto 4, 3) := by decide +kernel
theorem dX8_isEventTold_108 : decode cX8_isEventTold 108 = .ok (.iconst 0, 1) := by decide +kernel
theorem dX8_isEventTold_109 : decode cX8_isEventTold 109 = .ok (.ireturn, 1) := by decide +kernel
theorem dX8_isEventTold_110 : decode cX8_isEventTold 110 = .ok (.aload_n 0, 1) := by decide +kernel
theorem dX8_isEventTold_111 : decode cX8_isEventTold 111 = .ok (.iload_n 2, 1) := by decide +kernel
theorem dX8_isEventTold_112 : decode cX8_isEventTold 112 = .ok (.invokevirtual 210, 3) := by decide +kernel
theorem dX8_isEventTold_115 : decode cX8_isEventTold 115 = .ok (.ifCond .eq 15, 3) := by decide +kernel
theorem dX8_isEventTold_118 : decode cX8_isEventTold 118 = .ok (.aload_n 0, 1) := by decide +kernel
theorem dX8_isEventTold_119 : decode cX8_isEventTold 119 = .ok (.iload_n 3, 1) := by decide +kernel
theorem dX8_isEventTold_120 : decode cX8_isEventTold 120 = .ok (.invokevirtual 204, 3) := by decide +kernel
theorem dX8_isEventTold_123 : decode cX8_isEventTold 123 = .ok (.ifCond .eq 7, 3) := by decide +kernel
theorem dX8_isEventTold_126 : decode cX8_isEventTold 126 = .ok (.iconst 1, 1) := by decide +kernel
theorem dX8_isEventTold_127 : decode cX8_isEventTold 127 = .ok (.goto 4, 3) := by decide +kernel
theorem dX8_isEventTold_130 : decode cX8_isEventTold 130 = .ok (.iconst 0, 1) := by decide +kernel
theorem dX8_isEventTold_131 : decode cX8_isEventTold 131 = .ok (.ireturn, 1) := by decide +kernel
theorem dX8_isEventTold_132 : decode cX8_isEventTold 132 = .ok (.aload_n 0, 1) := by decide +kernel
theorem dX8_isEventTold_133 : decode cX8_isEventTold 133 = .ok (.iload_n 2, 1) := by decide +kernel
theorem dX8_isEventTold_134 : decode cX8_isEventTold 134 = .ok (.invokevirtual 210, 3) := by decide +kernel
theorem dX8_isEventTold_137 : decode cX8_isEventTold 137 = .ok (.ifCond .eq 15, 3) := by decide +kernel
theorem dX8_isEventTold_140 : decode cX8_isEventTold 140 = .ok (.aload_n 0, 1) := by decide +kernel
theorem dX8_isEventTold_141 : decode cX8_isEventTold 141 = .ok (.iload_n 3, 1) := by decide +kernel
theorem dX8_isEventTold_142 : decode cX8_isEventTold 142 = .ok (.invokevirtual 204, 3) := by decide +kernel
theorem dX8_isEventTold_145 : decode cX8_isEventTold 145 = .ok (.ifCond .eq 7, 3) := by decide +kernel
theorem dX8_isEventTold_148 : decode cX8_isEventTold 148 = .ok (.iconst 1, 1) := by decide +kernel
theorem dX8_isEventTold_149 : decode cX8_isEventTold 149 = .ok (.goto 4, 3) := by decide +kernel
theorem dX8_isEventTold_152 : decode cX8_isEventTold 152 = .ok (.iconst 0, 1) := by decide +kernel
theorem dX8_isEventTold_153 : decode cX8_isEventTold 153 = .ok (.ireturn, 1) := by decide +kernel
theorem dX8_isEventTold_154 : decode cX8_isEventTold 154 = .ok (.aload_n 0, 1) := by decide +kernel
theorem dX8_isEventTold_155 : decode cX8_isEventTold 155 = .ok (.iload_n 2, 1) := by decide +kernel
theorem dX8_isEventTold_156 : decode cX8_isEventTold 156 = .ok (.invokevirtual 204, 3) := by decide +kernel
theorem dX8_isEventTold_159 : decode cX8_isEventTold 159 = .ok (.ireturn, 1) := by decide +kernel
theorem dX8_isEventTold_160 : decode cX8_isEventTold 160 = .ok (.aload_n 0, 1) := by decide +kernel
theorem dX8_isEventTold_161 : decode cX8_isEventTold 161 = .ok (.iload_n 2, 1) := by decide +kernel
theorem dX8_isEventTold_162 : decode cX8_isEventTold 162 = .ok (.invokevirtual 207, 3) := by decide +kernel
theorem dX8_isEventTold_165 : decode cX8_isEventTold 165 = .ok (.ifCond .eq 20, 3) := by decide +kernel
theorem dX8_isEventTold_168 : decode cX8_isEventTold 168 = .ok (.aload_n 0, 1) := by decide +kernel
theorem dX8_isEventTold_169 : decode cX8_isEventTold 169 = .ok (.iload_n 3, 1) := by decide +kernel
theorem dX8_isEventTold_170 : decode cX8_isEventTold 170 = .ok (.invokevirtual 207, 3) := by decide +kernel
theorem dX8_isEventTold_173 : decode cX8_isEventTold 173 = .ok (.ifCond .eq 12, 3) := by decide +kernel
theorem dX8_isEventTold_176 : decode cX8_isEventTold 176 = .ok (.iload_n 2, 1) := by decide +kernel
theorem dX8_isEventTold_177 : decode cX8_isEventTold 177 = .ok (.iload_n 3, 1) := by decide +kernel
theorem dX8_isEventTold_178 : decode cX8_isEventTold 178 = .ok (.if_icmp .eq 7, 3) := by decide +kernel
theorem dX8_isEventTold_181 : decode cX8_isEventTold 181 = .ok (.iconst 1, 1) := by decide +kernel
theorem dX8_isEventTold_182 : decode cX8_isEventTold 182 = .ok (.goto 4, 3) := by decide +kernel
theorem dX8_isEventTold_185 : decode cX8_isEventTold 185 = .ok (.iconst 0, 1) := by decide +kernel
theorem dX8_isEventTold_186 : decode cX8_isEventTold 186 = .ok (.ireturn, 1) := by decide +kernel
theorem dX8_isEventTold_187 : decode cX8_isEventTold 187 = .ok (.iconst 0, 1) := by decide +kernel
theorem dX8_isEventTold_188 : decode cX8_isEventTold 188 = .ok (.ireturn, 1) := by decide +kernel
theorem dX8_event_0 : decode cX8_event 0 = .ok (.aload_n 0, 1) := by decide +kernel
theorem dX8_event_1 : decode cX8_event 1 = .ok (.iload_n 1, 1) := by decide +kernel
theorem dX8_event_2 : decode cX8_event 2 = .ok (.iload_n 2, 1) := by decide +kernel
theorem dX8_event_3 : decode cX8_event 3 = .ok (.iload_n 3, 1) := by decide +kernel
theorem dX8_event_4 : decode cX8_event 4 = .ok (.invokevirtual 213, 3) := by decide +kernel
theorem dX8_event_7 : decode cX8_event 7 = .ok (.ifCond .ne 5, 3) := by decide +kernel
theorem dX8_event_10 : decode cX8_event 10 = .ok (.iconst (-1), 1) := by decide +kernel
theorem dX8_event_11 : decode cX8_event 11 = .ok (.ireturn, 1) := by decide +kernel
theorem dX8_event_12 : decode cX8_event 12 = .ok (.aload_n 0, 1) := by decide +kernel
theorem dX8_event_13 : decode cX8_event 13 = .ok (.getfield 186, 3) := by decide +kernel
theorem dX8_event_16 : decode cX8_event 16 = .ok (.bipush 40, 2) := by decide +kernel
theorem dX8_event_18 : decode cX8_event 18 = .ok (.if_icmp .eq 17, 3) := by decide +kernel
theorem dX8_event_21 : decode cX8_event 21 = .ok (.iload_n 1, 1) := by decide +kernel
theorem dX8_event_22 : decode cX8_event 22 = .ok (.iconst 2, 1) := by decide +kernel
theorem dX8_event_23 : decode cX8_event 23 = .ok (.if_icmp .gt 15, 3) := by decide +kernel
theorem dX8_event_26 : decode cX8_event 26 = .ok (.aload_n 0, 1) := by decide +kernel
theorem dX8_event_27 : decode cX8_event 27 = .ok (.getfield 189, 3) := by decide +kernel
theorem dX8_event_30 : decode cX8_event 30 = .ok (.bipush 24, 2) := by decide +kernel
theorem dX8_event_32 : decode cX8_event 32 = .ok (.if_icmp .ne 6, 3) := by decide +kernel
theorem dX8_event_35 : decode cX8_event 35 = .ok (.bipush (-2), 2) := by decide +kernel
theorem dX8_event_37 : decode cX8_event 37 = .ok (.ireturn, 1) := by decide +kernel
theorem dX8_event_38 : decode cX8_event 38 = .ok (.iconst 4, 1) := by decide +kernel
theorem dX8_event_39 : decode cX8_event 39 = .ok (.aload_n 0, 1) := by decide +kernel
theorem dX8_event_40 : decode cX8_event 40 = .ok (.getfield 186, 3) := by decide +kernel
theorem dX8_event_43 : decode cX8_event 43 = .ok (.imul, 1) := by decide +kernel
theorem dX8_event_44 : decode cX8_event 44 = .ok (.istore 5, 2) := by decide +kernel
theorem dX8_event_46 : decode cX8_event 46 = .ok (.aload_n 0, 1) := by decide +kernel
theorem dX8_event_47 : decode cX8_event 47 = .ok (.getfield 47, 3) := by decide +kernel
theorem dX8_event_50 : decode cX8_event 50 = .ok (.iload 5, 2) := by decide +kernel
theorem dX8_event_52 : decode cX8_event 52 = .ok (.iload_n 1, 1) := by decide +kernel
theorem dX8_event_53 : decode cX8_event 53 = .ok (.iastore, 1) := by decide +kernel
theorem dX8_event_54 : decode cX8_event 54 = .ok (.aload_n 0, 1) := by decide +kernel
theorem dX8_event_55 : decode cX8_event 55 = .ok (.getfield 47, 3) := by decide +kernel
theorem dX8_event_58 : decode cX8_event 58 = .ok (.iload 5, 2) := by decide +kernel
theorem dX8_event_60 : decode cX8_event 60 = .ok (.iconst 1, 1) := by decide +kernel
theorem dX8_event_61 : decode cX8_event 61 = .ok (.iadd, 1) := by decide +kernel
theorem dX8_event_62 : decode cX8_event 62 = .ok (.iload_n 2, 1) := by decide +kernel
theorem dX8_event_63 : decode cX8_event 63 = .ok (.iastore, 1) := by decide +kernel
theorem dX8_event_64 : decode cX8_event 64 = .ok (.aload_n 0, 1) := by decide +kernel
theorem dX8_event_65 : decode cX8_event 65 = .ok (.getfield 47, 3) := by decide +kernel
theorem dX8_event_68 : decode cX8_event 68 = .ok (.iload 5, 2) := by decide +kernel
theorem dX8_event_70 : decode cX8_event 70 = .ok (.iconst 2, 1) := by decide +kernel
theorem dX8_event_71 : decode cX8_event 71 = .ok (.iadd, 1) := by decide +kernel
theorem dX8_event_72 : decode cX8_event 72 = .ok (.iload_n 1, 1) := by decide +kernel
theorem dX8_event_73 : decode cX8_event 73 = .ok (.bipush 6, 2) := by decide +kernel
theorem dX8_event_75 : decode cX8_event 75 = .ok (.if_icmp .ne 7, 3) := by decide +kernel
theorem dX8_event_78 : decode cX8_event 78 = .ok (.iconst 0, 1) := by decide +kernel
theorem dX8_event_79 : decode cX8_event 79 = .ok (.goto 4, 3) := by decide +kernel
theorem dX8_event_82 : decode cX8_event 82 = .ok (.iload_n 3, 1) := by decide +kernel
theorem dX8_event_83 : decode cX8_event 83 = .ok (.iastore, 1) := by decide +kernel
theorem dX8_event_84 : decode cX8_event 84 = .ok (.aload_n 0, 1) := by decide +kernel
theorem dX8_event_85 : decode cX8_event 85 = .ok (.getfield 47, 3) := by decide +kernel
theorem dX8_event_88 : decode cX8_event 88 = .ok (.iload 5, 2) := by decide +kernel
theorem dX8_event_90 : decode cX8_event 90 = .ok (.iconst 3, 1) := by decide +kernel
theorem dX8_event_91 : decode cX8_event 91 = .ok (.iadd, 1) := by decide +kernel
theorem dX8_event_92 : decode cX8_event 92 = .ok (.iload_n 1, 1) := by decide +kernel
theorem dX8_event_93 : decode cX8_event 93 = .ok (.bipush 7, 2) := by decide +kernel
theorem dX8_event_95 : decode cX8_event 95 = .ok (.if_icmp .ne 16, 3) := by decide +kernel
theorem dX8_event_98 : decode cX8_event 98 = .ok (.iload 4, 2) := by decide +kernel
theorem dX8_event_100 : decode cX8_event 100 = .ok (.ifCond .eq 7, 3) := by decide +kernel
theorem dX8_event_103 : decode cX8_event 103 = .ok (.iconst 1, 1) := by decide +kernel
theorem dX8_event_104 : decode cX8_event 104 = .ok (.goto 8, 3) := by decide +kernel
theorem dX8_event_107 : decode cX8_event 107 = .ok (.iconst (-1), 1) := by decide +kernel
theorem dX8_event_108 : decode cX8_event 108 = .ok (.goto 4, 3) := by decide +kernel
theorem dX8_event_111 : decode cX8_event 111 = .ok (.iconst 0, 1) := by decide +kernel
theorem dX8_event_112 : decode cX8_event 112 = .ok (.iastore, 1) := by decide +kernel
theorem dX8_event_113 : decode cX8_event 113 = .ok (.aload_n 0, 1) := by decide +kernel
theorem dX8_event_114 : decode cX8_event 114 = .ok (.dup, 1) := by decide +kernel
theorem dX8_event_115 : decode cX8_event 115 = .ok (.getfield 186, 3) := by decide +kernel
theorem dX8_event_118 : decode cX8_event 118 = .ok (.iconst 1, 1) := by decide +kernel
theorem dX8_event_119 : decode cX8_event 119 = .ok (.iadd, 1) := by decide +kernel
theorem dX8_event_120 : decode cX8_event 120 = .ok (.putfield 186, 3) := by decide +kernel
theorem dX8_event_123 : decode cX8_event 123 = .ok (.aload_n 0, 1) := by decide +kernel
theorem dX8_event_124 : decode cX8_event 124 = .ok (.invokevirtual 201, 3) := by decide +kernel
theorem dX8_event_127 : decode cX8_event 127 = .ok (.aload_n 0, 1) := by decide +kernel
theorem dX8_event_128 : decode cX8_event 128 = .ok (.getfield 186, 3) := by decide +kernel
theorem dX8_event_131 : decode cX8_event 131 = .ok (.iconst 1, 1) := by decide +kernel
theorem dX8_event_132 : decode cX8_event 132 = .ok (.isub, 1) := by decide +kernel
theorem dX8_event_133 : decode cX8_event 133 = .ok (.ireturn, 1) := by decide +kernel
theorem dX8_back_0 : decode cX8_back 0 = .ok (.iload_n 1, 1) := by decide +kernel
theorem dX8_back_1 : decode cX8_back 1 = .ok (.iconst 0, 1) := by decide +kernel
theorem dX8_back_2 : decode cX8_back 2 = .ok (.aload_n 0, 1) := by decide +kernel
theorem dX8_back_3 : decode cX8_back 3 = .ok (.getfield 186, 3) := by decide +kernel
theorem dX8_back_6 : decode cX8_back 6 = .ok (.invokestatic 112, 3) := by decide +kernel
theorem dX8_back_9 : decode cX8_back 9 = .ok (.ifCond .ne 5, 3) := by decide +kernel
theorem dX8_back_12 : decode cX8_back 12 = .ok (.iconst (-1), 1) := by decide +kernel
theorem dX8_back_13 : decode cX8_back 13 = .ok (.ireturn, 1) := by decide +kernel
theorem dX8_back_14 : decode cX8_back 14 = .ok (.aload_n 0, 1) := by decide +kernel
theorem dX8_back_15 : decode cX8_back 15 = .ok (.getfield 186, 3) := by decide +kernel
theorem dX8_back_18 : decode cX8_back 18 = .ok (.iload_n 1, 1) := by decide +kernel
theorem dX8_back_19 : decode cX8_back 19 = .ok (.isub, 1) := by decide +kernel
theorem dX8_back_20 : decode cX8_back 20 = .ok (.istore_n 2, 1) := by decide +kernel
theorem dX8_back_21 : decode cX8_back 21 = .ok (.aload_n 0, 1) := by decide +kernel
theorem dX8_back_22 : decode cX8_back 22 = .ok (.iload_n 1, 1) := by decide +kernel
theorem dX8_back_23 : decode cX8_back 23 = .ok (.putfield 186, 3) := by decide +kernel
theorem dX8_back_26 : decode cX8_back 26 = .ok (.aload_n 0, 1) := by decide +kernel
theorem dX8_back_27 : decode cX8_back 27 = .ok (.invokevirtual 201, 3) := by decide +kernel
theorem dX8_back_30 : decode cX8_back 30 = .ok (.iload_n 2, 1) := by decide +kernel
theorem dX8_back_31 : decode cX8_back 31 = .ok (.ireturn, 1) := by decide +kernel
theorem dX8_settle_0 : decode cX8_settle 0 = .ok (.aload_n 0, 1) := by decide +kernel
theorem dX8_settle_1 : decode cX8_settle 1 = .ok (.iconst 0, 1) := by decide +kernel
theorem dX8_settle_2 : decode cX8_settle 2 = .ok (.putfield 189, 3) := by decide +kernel
theorem dX8_settle_5 : decode cX8_settle 5 = .ok (.iconst 0, 1) := by decide +kernel
theorem dX8_settle_6 : decode cX8_settle 6 = .ok (.istore_n 1, 1) := by decide +kernel
theorem dX8_settle_7 : decode cX8_settle 7 = .ok (.iload_n 1, 1) := by decide +kernel
theorem dX8_settle_8 : decode cX8_settle 8 = .ok (.bipush 6, 2) := by decide +kernel
theorem dX8_settle_10 : decode cX8_settle 10 = .ok (.if_icmp .ge 37, 3) := by decide +kernel
theorem dX8_settle_13 : decode cX8_settle 13 = .ok (.aload_n 0, 1) := by decide +kernel
theorem dX8_settle_14 : decode cX8_settle 14 = .ok (.getfield 71, 3) := by decide +kernel
theorem dX8_settle_17 : decode cX8_settle 17 = .ok (.iload_n 1, 1) := by decide +kernel
theorem dX8_settle_18 : decode cX8_settle 18 = .ok (.iconst 0, 1) := by decide +kernel
theorem dX8_settle_19 : decode cX8_settle 19 = .ok (.iastore, 1) := by decide +kernel
theorem dX8_settle_20 : decode cX8_settle 20 = .ok (.aload_n 0, 1) := by decide +kernel
theorem dX8_settle_21 : decode cX8_settle 21 = .ok (.getfield 77, 3) := by decide +kernel
theorem dX8_settle_24 : decode cX8_settle 24 = .ok (.iload_n 1, 1) := by decide +kernel
theorem dX8_settle_25 : decode cX8_settle 25 = .ok (.iconst 0, 1) := by decide +kernel
theorem dX8_settle_26 : decode cX8_settle 26 = .ok (.iastore, 1) := by decide +kernel
theorem dX8_settle_27 : decode cX8_settle 27 = .ok (.aload_n 0, 1) := by decide +kernel
theorem dX8_settle_28 : decode cX8_settle 28 = .ok (.getfield 80, 3) := by decide +kernel
theorem dX8_settle_31 : decode cX8_settle 31 = .ok (.iload_n 1, 1) := by decide +kernel
theorem dX8_settle_32 : decode cX8_settle 32 = .ok (.iconst 0, 1) := by decide +kernel
theorem dX8_settle_33 : decode cX8_settle 33 = .ok (.iastore, 1) := by decide +kernel
theorem dX8_settle_34 : decode cX8_settle 34 = .ok (.aload_n 0, 1) := by decide +kernel
theorem dX8_settle_35 : decode cX8_settle 35 = .ok (.getfield 83, 3) := by decide +kernel
theorem dX8_settle_38 : decode cX8_settle 38 = .ok (.iload_n 1, 1) := by decide +kernel
theorem dX8_settle_39 : decode cX8_settle 39 = .ok (.iconst 0, 1) := by decide +kernel
theorem dX8_settle_40 : decode cX8_settle 40 = .ok (.iastore, 1) := by decide +kernel
theorem dX8_settle_41 : decode cX8_settle 41 = .ok (.iinc 1 1, 3) := by decide +kernel
theorem dX8_settle_44 : decode cX8_settle 44 = .ok (.goto (-37), 3) := by decide +kernel
theorem dX8_settle_47 : decode cX8_settle 47 = .ok (.iconst 0, 1) := by decide +kernel
theorem dX8_settle_48 : decode cX8_settle 48 = .ok (.istore_n 1, 1) := by decide +kernel
theorem dX8_settle_49 : decode cX8_settle 49 = .ok (.iload_n 1, 1) := by decide +kernel
theorem dX8_settle_50 : decode cX8_settle 50 = .ok (.sipush 144, 3) := by decide +kernel
theorem dX8_settle_53 : decode cX8_settle 53 = .ok (.if_icmp .ge 16, 3) := by decide +kernel
theorem dX8_settle_56 : decode cX8_settle 56 = .ok (.aload_n 0, 1) := by decide +kernel
theorem dX8_settle_57 : decode cX8_settle 57 = .ok (.getfield 74, 3) := by decide +kernel
theorem dX8_settle_60 : decode cX8_settle 60 = .ok (.iload_n 1, 1) := by decide +kernel
theorem dX8_settle_61 : decode cX8_settle 61 = .ok (.iconst 0, 1) := by decide +kernel
theorem dX8_settle_62 : decode cX8_settle 62 = .ok (.iastore, 1) := by decide +kernel
theorem dX8_settle_63 : decode cX8_settle 63 = .ok (.iinc 1 1, 3) := by decide +kernel
theorem dX8_settle_66 : decode cX8_settle 66 = .ok (.goto (-17), 3) := by decide +kernel
theorem dX8_settle_69 : decode cX8_settle 69 = .ok (.iconst 0, 1) := by decide +kernel
theorem dX8_settle_70 : decode cX8_settle 70 = .ok (.istore_n 1, 1) := by decide +kernel
theorem dX8_settle_71 : decode cX8_settle 71 = .ok (.iload_n 1, 1) := by decide +kernel
theorem dX8_settle_72 : decode cX8_settle 72 = .ok (.aload_n 0, 1) := by decide +kernel
theorem dX8_settle_73 : decode cX8_settle 73 = .ok (.getfield 186, 3) := by decide +kernel
theorem dX8_settle_76 : decode cX8_settle 76 = .ok (.if_icmp .ge 14, 3) := by decide +kernel
theorem dX8_settle_79 : decode cX8_settle 79 = .ok (.aload_n 0, 1) := by decide +kernel
theorem dX8_settle_80 : decode cX8_settle 80 = .ok (.iload_n 1, 1) := by decide +kernel
theorem dX8_settle_81 : decode cX8_settle 81 = .ok (.invokevirtual 216, 3) := by decide +kernel
theorem dX8_settle_84 : decode cX8_settle 84 = .ok (.iinc 1 1, 3) := by decide +kernel
theorem dX8_settle_87 : decode cX8_settle 87 = .ok (.goto (-16), 3) := by decide +kernel
theorem dX8_settle_90 : decode cX8_settle 90 = .ok (.aload_n 0, 1) := by decide +kernel
theorem dX8_settle_91 : decode cX8_settle 91 = .ok (.iconst 0, 1) := by decide +kernel
theorem dX8_settle_92 : decode cX8_settle 92 = .ok (.putfield 220, 3) := by decide +kernel
theorem dX8_settle_95 : decode cX8_settle 95 = .ok (.iconst 0, 1) := by decide +kernel
theorem dX8_settle_96 : decode cX8_settle 96 = .ok (.istore_n 1, 1) := by decide +kernel
theorem dX8_settle_97 : decode cX8_settle 97 = .ok (.iload_n 1, 1) := by decide +kernel
theorem dX8_settle_98 : decode cX8_settle 98 = .ok (.aload_n 0, 1) := by decide +kernel
theorem dX8_settle_99 : decode cX8_settle 99 = .ok (.getfield 189, 3) := by decide +kernel
theorem dX8_settle_102 : decode cX8_settle 102 = .ok (.if_icmp .ge 103, 3) := by decide +kernel
theorem dX8_settle_105 : decode cX8_settle 105 = .ok (.iconst 1, 1) := by decide +kernel
theorem dX8_settle_106 : decode cX8_settle 106 = .ok (.iload_n 1, 1) := by decide +kernel
theorem dX8_settle_107 : decode cX8_settle 107 = .ok (.ishl, 1) := by decide +kernel
theorem dX8_settle_108 : decode cX8_settle 108 = .ok (.istore_n 2, 1) := by decide +kernel
theorem dX8_settle_109 : decode cX8_settle 109 = .ok (.aload_n 0, 1) := by decide +kernel
theorem dX8_settle_110 : decode cX8_settle 110 = .ok (.getfield 77, 3) := by decide +kernel
theorem dX8_settle_113 : decode cX8_settle 113 = .ok (.aload_n 0, 1) := by decide +kernel
theorem dX8_settle_114 : decode cX8_settle 114 = .ok (.getfield 53, 3) := by decide +kernel
theorem dX8_settle_117 : decode cX8_settle 117 = .ok (.iload_n 1, 1) := by decide +kernel
theorem dX8_settle_118 : decode cX8_settle 118 = .ok (.iaload, 1) := by decide +kernel
theorem dX8_settle_119 : decode cX8_settle 119 = .ok (.dup2, 1) := by decide +kernel
theorem dX8_settle_120 : decode cX8_settle 120 = .ok (.iaload, 1) := by decide +kernel
theorem dX8_settle_121 : decode cX8_settle 121 = .ok (.aload_n 0, 1) := by decide +kernel
theorem dX8_settle_122 : decode cX8_settle 122 = .ok (.iload_n 1, 1) := by decide +kernel
theorem dX8_settle_123 : decode cX8_settle 123 = .ok (.invokevirtual 223, 3) := by decide +kernel
theorem dX8_settle_126 : decode cX8_settle 126 = .ok (.ifCond .eq 7, 3) := by decide +kernel
theorem dX8_settle_129 : decode cX8_settle 129 = .ok (.iload_n 2, 1) := by decide +kernel
theorem dX8_settle_130 : decode cX8_settle 130 = .ok (.goto 4, 3) := by decide +kernel
theorem dX8_settle_133 : decode cX8_settle 133 = .ok (.iconst 0, 1) := by decide +kernel
theorem dX8_settle_134 : decode cX8_settle 134 = .ok (.ior, 1) := by decide +kernel
theorem dX8_settle_135 : decode cX8_settle 135 = .ok (.iastore, 1) := by decide +kernel
theorem dX8_settle_136 : decode cX8_settle 136 = .ok (.aload_n 0, 1) := by decide +kernel
theorem dX8_settle_137 : decode cX8_settle 137 = .ok (.getfield 59, 3) := by decide +kernel
theorem dX8_settle_140 : decode cX8_settle 140 = .ok (.iload_n 1, 1) := by decide +kernel
theorem dX8_settle_141 : decode cX8_settle 141 = .ok (.iaload, 1) := by decide +kernel
theorem dX8_settle_142 : decode cX8_settle 142 = .ok (.iconst 1, 1) := by decide +kernel
theorem dX8_settle_143 : decode cX8_settle 143 = .ok (.if_icmp .ne 31, 3) := by decide +kernel
theorem dX8_settle_146 : decode cX8_settle 146 = .ok (.aload_n 0, 1) := by decide +kernel
theorem dX8_settle_147 : decode cX8_settle 147 = .ok (.getfield 80, 3) := by decide +kernel
theorem dX8_settle_150 : decode cX8_settle 150 = .ok (.aload_n 0, 1) := by decide +kernel
theorem dX8_settle_151 : decode cX8_settle 151 = .ok (.getfield 62, 3) := by decide +kernel
theorem dX8_settle_154 : decode cX8_settle 154 = .ok (.iload_n 1, 1) := by decide +kernel
theorem dX8_settle_155 : decode cX8_settle 155 = .ok (.iaload, 1) := by decide +kernel
theorem dX8_settle_156 : decode cX8_settle 156 = .ok (.dup2, 1) := by decide +kernel
theorem dX8_settle_157 : decode cX8_settle 157 = .ok (.iaload, 1) := by decide +kernel
theorem dX8_settle_158 : decode cX8_settle 158 = .ok (.iload_n 2, 1) := by decide +kernel
theorem dX8_settle_159 : decode cX8_settle 159 = .ok (.ior, 1) := by decide +kernel
theorem dX8_settle_160 : decode cX8_settle 160 = .ok (.iastore, 1) := by decide +kernel
theorem dX8_settle_161 : decode cX8_settle 161 = .ok (.aload_n 0, 1) := by decide +kernel
theorem dX8_settle_162 : decode cX8_settle 162 = .ok (.dup, 1) := by decide +kernel
theorem dX8_settle_163 : decode cX8_settle 163 = .ok (.getfield 220, 3) := by decide +kernel
theorem dX8_settle_166 : decode cX8_settle 166 = .ok (.iload_n 2, 1) := by decide +kernel
theorem dX8_settle_167 : decode cX8_settle 167 = .ok (.ior, 1) := by decide +kernel
theorem dX8_settle_168 : decode cX8_settle 168 = .ok (.putfield 220, 3) := by decide +kernel
theorem dX8_settle_171 : decode cX8_settle 171 = .ok (.goto 28, 3) := by decide +kernel
theorem dX8_settle_174 : decode cX8_settle 174 = .ok (.aload_n 0, 1) := by decide +kernel
theorem dX8_settle_175 : decode cX8_settle 175 = .ok (.getfield 59, 3) := by decide +kernel
theorem dX8_settle_178 : decode cX8_settle 178 = .ok (.iload_n 1, 1) := by decide +kernel
theorem dX8_settle_179 : decode cX8_settle 179 = .ok (.iaload, 1) := by decide +kernel
theorem dX8_settle_180 : decode cX8_settle 180 = .ok (.iconst 2, 1) := by decide +kernel
theorem dX8_settle_181 : decode cX8_settle 181 = .ok (.if_icmp .ne 18, 3) := by decide +kernel
theorem dX8_settle_184 : decode cX8_settle 184 = .ok (.aload_n 0, 1) := by decide +kernel
theorem dX8_settle_185 : decode cX8_settle 185 = .ok (.getfield 83, 3) := by decide +kernel
theorem dX8_settle_188 : decode cX8_settle 188 = .ok (.aload_n 0, 1) := by decide +kernel
theorem dX8_settle_189 : decode cX8_settle 189 = .ok (.getfield 62, 3) := by decide +kernel
theorem dX8_settle_192 : decode cX8_settle 192 = .ok (.iload_n 1, 1) := by decide +kernel
theorem dX8_settle_193 : decode cX8_settle 193 = .ok (.iaload, 1) := by decide +kernel
theorem dX8_settle_194 : decode cX8_settle 194 = .ok (.dup2, 1) := by decide +kernel
theorem dX8_settle_195 : decode cX8_settle 195 = .ok (.iaload, 1) := by decide +kernel
theorem dX8_settle_196 : decode cX8_settle 196 = .ok (.iload_n 2, 1) := by decide +kernel
theorem dX8_settle_197 : decode cX8_settle 197 = .ok (.ior, 1) := by decide +kernel
theorem dX8_settle_198 : decode cX8_settle 198 = .ok (.iastore, 1) := by decide +kernel
theorem dX8_settle_199 : decode cX8_settle 199 = .ok (.iinc 1 1, 3) := by decide +kernel
theorem dX8_settle_202 : decode cX8_settle 202 = .ok (.goto (-105), 3) := by decide +kernel
theorem dX8_settle_205 : decode cX8_settle 205 = .ok (.return_, 1) := by decide +kernel
theorem dX8_comesKey_0 : decode cX8_comesKey 0 = .ok (.aload_n 0, 1) := by decide +kernel
theorem dX8_comesKey_1 : decode cX8_comesKey 1 = .ok (.getfield 53, 3) := by decide +kernel
theorem dX8_comesKey_4 : decode cX8_comesKey 4 = .ok (.aload_n 0, 1) := by decide +kernel
theorem dX8_comesKey_5 : decode cX8_comesKey 5 = .ok (.getfield 189, 3) := by decide +kernel
theorem dX8_comesKey_8 : decode cX8_comesKey 8 = .ok (.iload_n 2, 1) := by decide +kernel
theorem dX8_comesKey_9 : decode cX8_comesKey 9 = .ok (.iastore, 1) := by decide +kernel
theorem dX8_comesKey_10 : decode cX8_comesKey 10 = .ok (.aload_n 0, 1) := by decide +kernel
theorem dX8_comesKey_11 : decode cX8_comesKey 11 = .ok (.getfield 56, 3) := by decide +kernel
theorem dX8_comesKey_14 : decode cX8_comesKey 14 = .ok (.aload_n 0, 1) := by decide +kernel
theorem dX8_comesKey_15 : decode cX8_comesKey 15 = .ok (.getfield 189, 3) := by decide +kernel
theorem dX8_comesKey_18 : decode cX8_comesKey 18 = .ok (.iload_n 3, 1) := by decide +kernel
theorem dX8_comesKey_19 : decode cX8_comesKey 19 = .ok (.iastore, 1) := by decide +kernel
theorem dX8_comesKey_20 : decode cX8_comesKey 20 = .ok (.aload_n 0, 1) := by decide +kernel
theorem dX8_comesKey_21 : decode cX8_comesKey 21 = .ok (.getfield 65, 3) := by decide +kernel
theorem dX8_comesKey_24 : decode cX8_comesKey 24 = .ok (.aload_n 0, 1) := by decide +kernel
theorem dX8_comesKey_25 : decode cX8_comesKey 25 = .ok (.getfield 189, 3) := by decide +kernel
theorem dX8_comesKey_28 : decode cX8_comesKey 28 = .ok (.iconst 0, 1) := by decide +kernel
theorem dX8_comesKey_29 : decode cX8_comesKey 29 = .ok (.iastore, 1) := by decide +kernel
theorem dX8_comesKey_30 : decode cX8_comesKey 30 = .ok (.aload_n 0, 1) := by decide +kernel
theorem dX8_comesKey_31 : decode cX8_comesKey 31 = .ok (.getfield 68, 3) := by decide +kernel
theorem dX8_comesKey_34 : decode cX8_comesKey 34 = .ok (.iload_n 1, 1) := by decide +kernel
theorem dX8_comesKey_35 : decode cX8_comesKey 35 = .ok (.aload_n 0, 1) := by decide +kernel
theorem dX8_comesKey_36 : decode cX8_comesKey 36 = .ok (.getfield 189, 3) := by decide +kernel
theorem dX8_comesKey_39 : decode cX8_comesKey 39 = .ok (.iastore, 1) := by decide +kernel
theorem dX8_comesKey_40 : decode cX8_comesKey 40 = .ok (.aload_n 0, 1) := by decide +kernel
theorem dX8_comesKey_41 : decode cX8_comesKey 41 = .ok (.dup, 1) := by decide +kernel
theorem dX8_comesKey_42 : decode cX8_comesKey 42 = .ok (.getfield 189, 3) := by decide +kernel
theorem dX8_comesKey_45 : decode cX8_comesKey 45 = .ok (.iconst 1, 1) := by decide +kernel
theorem dX8_comesKey_46 : decode cX8_comesKey 46 = .ok (.iadd, 1) := by decide +kernel
theorem dX8_comesKey_47 : decode cX8_comesKey 47 = .ok (.putfield 189, 3) := by decide +kernel
theorem dX8_comesKey_50 : decode cX8_comesKey 50 = .ok (.aload_n 0, 1) := by decide +kernel
theorem dX8_comesKey_51 : decode cX8_comesKey 51 = .ok (.aload_n 0, 1) := by decide +kernel
theorem dX8_comesKey_52 : decode cX8_comesKey 52 = .ok (.getfield 189, 3) := by decide +kernel
theorem dX8_comesKey_55 : decode cX8_comesKey 55 = .ok (.iconst 1, 1) := by decide +kernel
theorem dX8_comesKey_56 : decode cX8_comesKey 56 = .ok (.isub, 1) := by decide +kernel
theorem dX8_comesKey_57 : decode cX8_comesKey 57 = .ok (.iconst 0, 1) := by decide +kernel
theorem dX8_comesKey_58 : decode cX8_comesKey 58 = .ok (.iload 4, 2) := by decide +kernel
theorem dX8_comesKey_60 : decode cX8_comesKey 60 = .ok (.invokevirtual 226, 3) := by decide +kernel
theorem dX8_comesKey_63 : decode cX8_comesKey 63 = .ok (.return_, 1) := by decide +kernel
theorem dX8_goes_0 : decode cX8_goes 0 = .ok (.aload_n 0, 1) := by decide +kernel
theorem dX8_goes_1 : decode cX8_goes 1 = .ok (.getfield 59, 3) := by decide +kernel
theorem dX8_goes_4 : decode cX8_goes 4 = .ok (.iload_n 1, 1) := by decide +kernel
theorem dX8_goes_5 : decode cX8_goes 5 = .ok (.iload_n 2, 1) := by decide +kernel
theorem dX8_goes_6 : decode cX8_goes 6 = .ok (.iastore, 1) := by decide +kernel
theorem dX8_goes_7 : decode cX8_goes 7 = .ok (.aload_n 0, 1) := by decide +kernel
theorem dX8_goes_8 : decode cX8_goes 8 = .ok (.getfield 62, 3) := by decide +kernel
theorem dX8_goes_11 : decode cX8_goes 11 = .ok (.iload_n 1, 1) := by decide +kernel
theorem dX8_goes_12 : decode cX8_goes 12 = .ok (.iload_n 3, 1) := by decide +kernel
theorem dX8_goes_13 : decode cX8_goes 13 = .ok (.iastore, 1) := by decide +kernel
theorem dX8_goes_14 : decode cX8_goes 14 = .ok (.aload_n 0, 1) := by decide +kernel
theorem dX8_goes_15 : decode cX8_goes 15 = .ok (.getfield 65, 3) := by decide +kernel
theorem dX8_goes_18 : decode cX8_goes 18 = .ok (.iload_n 1, 1) := by decide +kernel
theorem dX8_goes_19 : decode cX8_goes 19 = .ok (.dup2, 1) := by decide +kernel
theorem dX8_goes_20 : decode cX8_goes 20 = .ok (.iaload, 1) := by decide +kernel
theorem dX8_goes_21 : decode cX8_goes 21 = .ok (.iload_n 2, 1) := by decide +kernel
theorem dX8_goes_22 : decode cX8_goes 22 = .ok (.ifCond .ne 9, 3) := by decide +kernel
theorem dX8_goes_25 : decode cX8_goes 25 = .ok (.iconst 1, 1) := by decide +kernel
theorem dX8_goes_26 : decode cX8_goes 26 = .ok (.iload_n 3, 1) := by decide +kernel
theorem dX8_goes_27 : decode cX8_goes 27 = .ok (.ishl, 1) := by decide +kernel
theorem dX8_goes_28 : decode cX8_goes 28 = .ok (.goto 4, 3) := by decide +kernel
theorem dX8_goes_31 : decode cX8_goes 31 = .ok (.iconst 0, 1) := by decide +kernel
theorem dX8_goes_32 : decode cX8_goes 32 = .ok (.ior, 1) := by decide +kernel
theorem dX8_goes_33 : decode cX8_goes 33 = .ok (.iastore, 1) := by decide +kernel
theorem dX8_goes_34 : decode cX8_goes 34 = .ok (.return_, 1) := by decide +kernel
theorem dX8_happens_0 : decode cX8_happens 0 = .ok (.aload_n 0, 1) := by decide +kernel
theorem dX8_happens_1 : decode cX8_happens 1 = .ok (.getfield 47, 3) := by decide +kernel
theorem dX8_happens_4 : decode cX8_happens 4 = .ok (.iconst 4, 1) := by decide +kernel
theorem dX8_happens_5 : decode cX8_happens 5 = .ok (.iload_n 1, 1) := by decide +kernel
theorem dX8_happens_6 : decode cX8_happens 6 = .ok (.imul, 1) := by decide +kernel
theorem dX8_happens_7 : decode cX8_happens 7 = .ok (.iconst 1, 1) := by decide +kernel
theorem dX8_happens_8 : decode cX8_happens 8 = .ok (.iadd, 1) := by decide +kernel
theorem dX8_happens_9 : decode cX8_happens 9 = .ok (.iaload, 1) := by decide +kernel
theorem dX8_happens_10 : decode cX8_happens 10 = .ok (.istore_n 2, 1) := by decide +kernel
theorem dX8_happens_11 : decode cX8_happens 11 = .ok (.aload_n 0, 1) := by decide +kernel
theorem dX8_happens_12 : decode cX8_happens 12 = .ok (.getfield 47, 3) := by decide +kernel
theorem dX8_happens_15 : decode cX8_happens 15 = .ok (.iconst 4, 1) := by decide +kernel
theorem dX8_happens_16 : decode cX8_happens 16 = .ok (.iload_n 1, 1) := by decide +kernel
theorem dX8_happens_17 : decode cX8_happens 17 = .ok (.imul, 1) := by decide +kernel
theorem dX8_happens_18 : decode cX8_happens 18 = .ok (.iconst 2, 1) := by decide +kernel
theorem dX8_happens_19 : decode cX8_happens 19 = .ok (.iadd, 1) := by decide +kernel
theorem dX8_happens_20 : decode cX8_happens 20 = .ok (.iaload, 1) := by decide +kernel
theorem dX8_happens_21 : decode cX8_happens 21 = .ok (.istore_n 3, 1) := by decide +kernel
theorem dX8_happens_22 : decode cX8_happens 22 = .ok (.aload_n 0, 1) := by decide +kernel
theorem dX8_happens_23 : decode cX8_happens 23 = .ok (.getfield 47, 3) := by decide +kernel
theorem dX8_happens_26 : decode cX8_happens 26 = .ok (.iconst 4, 1) := by decide +kernel
theorem dX8_happens_27 : decode cX8_happens 27 = .ok (.iload_n 1, 1) := by decide +kernel
theorem dX8_happens_28 : decode cX8_happens 28 = .ok (.imul, 1) := by decide +kernel
theorem dX8_happens_29 : decode cX8_happens 29 = .ok (.iaload, 1) := by decide +kernel
theorem dX8_happens_30 : decode cX8_happens 30 = .ok (.tableswitch 118 1 6 #[38, 54, 75, 85, 95, 105], 38) := by decide +kernel
theorem dX8_happens_68 : decode cX8_happens 68 = .ok (.aload_n 0, 1) := by decide +kernel
theorem dX8_happens_69 : decode cX8_happens 69 = .ok (.iload_n 1, 1) := by decide +kernel
theorem dX8_happens_70 : decode cX8_happens 70 = .ok (.iload_n 2, 1) := by decide +kernel
theorem dX8_happens_71 : decode cX8_happens 71 = .ok (.aload_n 0, 1) := by decide +kernel
theorem dX8_happens_72 : decode cX8_happens 72 = .ok (.getfield 71, 3) := by decide +kernel
theorem dX8_happens_75 : decode cX8_happens 75 = .ok (.iload_n 2, 1) := by decide +kernel
theorem dX8_happens_76 : decode cX8_happens 76 = .ok (.iaload, 1) := by decide +kernel
theorem dX8_happens_77 : decode cX8_happens 77 = .ok (.iload_n 3, 1) := by decide +kernel
theorem dX8_happens_78 : decode cX8_happens 78 = .ok (.invokevirtual 230, 3) := by decide +kernel
theorem dX8_happens_81 : decode cX8_happens 81 = .ok (.goto 126, 3) := by decide +kernel
theorem dX8_happens_84 : decode cX8_happens 84 = .ok (.aload_n 0, 1) := by decide +kernel
theorem dX8_happens_85 : decode cX8_happens 85 = .ok (.iload_n 1, 1) := by decide +kernel
theorem dX8_happens_86 : decode cX8_happens 86 = .ok (.aload_n 0, 1) := by decide +kernel
theorem dX8_happens_87 : decode cX8_happens 87 = .ok (.getfield 53, 3) := by decide +kernel
theorem dX8_happens_90 : decode cX8_happens 90 = .ok (.iload_n 2, 1) := by decide +kernel
theorem dX8_happens_91 : decode cX8_happens 91 = .ok (.iaload, 1) := by decide +kernel
theorem dX8_happens_92 : decode cX8_happens 92 = .ok (.aload_n 0, 1) := by decide +kernel
theorem dX8_happens_93 : decode cX8_happens 93 = .ok (.getfield 56, 3) := by decide +kernel
theorem dX8_happens_96 : decode cX8_happens 96 = .ok (.iload_n 2, 1) := by decide +kernel
theorem dX8_happens_97 : decode cX8_happens 97 = .ok (.iaload, 1) := by decide +kernel
theorem dX8_happens_98 : decode cX8_happens 98 = .ok (.iload_n 3, 1) := by decide +kernel
theorem dX8_happens_99 : decode cX8_happens 99 = .ok (.invokevirtual 230, 3) := by decide +kernel
theorem dX8_happens_102 : decode cX8_happens 102 = .ok (.goto 105, 3) := by decide +kernel
theorem dX8_happens_105 : decode cX8_happens 105 = .ok (.aload_n 0, 1) := by decide +kernel
theorem dX8_happens_106 : decode cX8_happens 106 = .ok (.iload_n 2, 1) := by decide +kernel
theorem dX8_happens_107 : decode cX8_happens 107 = .ok (.iconst 0, 1) := by decide +kernel
theorem dX8_happens_108 : decode cX8_happens 108 = .ok (.iload_n 3, 1) := by decide +kernel
theorem dX8_happens_109 : decode cX8_happens 109 = .ok (.invokevirtual 226, 3) := by decide +kernel
theorem dX8_happens_112 : decode cX8_happens 112 = .ok (.goto 95, 3) := by decide +kernel
theorem dX8_happens_115 : decode cX8_happens 115 = .ok (.aload_n 0, 1) := by decide +kernel
theorem dX8_happens_116 : decode cX8_happens 116 = .ok (.iload_n 2, 1) := by decide +kernel
theorem dX8_happens_117 : decode cX8_happens 117 = .ok (.iconst 1, 1) := by decide +kernel
theorem dX8_happens_118 : decode cX8_happens 118 = .ok (.iload_n 3, 1) := by decide +kernel
theorem dX8_happens_119 : decode cX8_happens 119 = .ok (.invokevirtual 226, 3) := by decide +kernel
theorem dX8_happens_122 : decode cX8_happens 122 = .ok (.goto 85, 3) := by decide +kernel
theorem dX8_happens_125 : decode cX8_happens 125 = .ok (.aload_n 0, 1) := by decide +kernel
theorem dX8_happens_126 : decode cX8_happens 126 = .ok (.iload_n 2, 1) := by decide +kernel
theorem dX8_happens_127 : decode cX8_happens 127 = .ok (.iconst 2, 1) := by decide +kernel
theorem dX8_happens_128 : decode cX8_happens 128 = .ok (.iload_n 3, 1) := by decide +kernel
theorem dX8_happens_129 : decode cX8_happens 129 = .ok (.invokevirtual 226, 3) := by decide +kernel
theorem dX8_happens_132 : decode cX8_happens 132 = .ok (.goto 75, 3) := by decide +kernel
theorem dX8_happens_135 : decode cX8_happens 135 = .ok (.aload_n 0, 1) := by decide +kernel
theorem dX8_happens_136 : decode cX8_happens 136 = .ok (.getfield 71, 3) := by decide +kernel
theorem dX8_happens_139 : decode cX8_happens 139 = .ok (.iload_n 2, 1) := by decide +kernel
theorem dX8_happens_140 : decode cX8_happens 140 = .ok (.dup2, 1) := by decide +kernel
theorem dX8_happens_141 : decode cX8_happens 141 = .ok (.iaload, 1) := by decide +kernel
theorem dX8_happens_142 : decode cX8_happens 142 = .ok (.iconst 1, 1) := by decide +kernel
theorem dX8_happens_143 : decode cX8_happens 143 = .ok (.iadd, 1) := by decide +kernel
theorem dX8_happens_144 : decode cX8_happens 144 = .ok (.iastore, 1) := by decide +kernel
theorem dX8_happens_145 : decode cX8_happens 145 = .ok (.goto 62, 3) := by decide +kernel
theorem dX8_happens_148 : decode cX8_happens 148 = .ok (.bipush 12, 2) := by decide +kernel
theorem dX8_happens_150 : decode cX8_happens 150 = .ok (.iload_n 2, 1) := by decide +kernel
theorem dX8_happens_151 : decode cX8_happens 151 = .ok (.imul, 1) := by decide +kernel
theorem dX8_happens_152 : decode cX8_happens 152 = .ok (.iload_n 3, 1) := by decide +kernel
theorem dX8_happens_153 : decode cX8_happens 153 = .ok (.iadd, 1) := by decide +kernel
theorem dX8_happens_154 : decode cX8_happens 154 = .ok (.istore 4, 2) := by decide +kernel
theorem dX8_happens_156 : decode cX8_happens 156 = .ok (.aload_n 0, 1) := by decide +kernel
theorem dX8_happens_157 : decode cX8_happens 157 = .ok (.getfield 74, 3) := by decide +kernel
theorem dX8_happens_160 : decode cX8_happens 160 = .ok (.iload 4, 2) := by decide +kernel
theorem dX8_happens_162 : decode cX8_happens 162 = .ok (.iaload, 1) := by decide +kernel
theorem dX8_happens_163 : decode cX8_happens 163 = .ok (.aload_n 0, 1) := by decide +kernel
theorem dX8_happens_164 : decode cX8_happens 164 = .ok (.getfield 47, 3) := by decide +kernel
theorem dX8_happens_167 : decode cX8_happens 167 = .ok (.iconst 4, 1) := by decide +kernel
theorem dX8_happens_168 : decode cX8_happens 168 = .ok (.iload_n 1, 1) := by decide +kernel
theorem dX8_happens_169 : decode cX8_happens 169 = .ok (.imul, 1) := by decide +kernel
theorem dX8_happens_170 : decode cX8_happens 170 = .ok (.iconst 3, 1) := by decide +kernel
theorem dX8_happens_171 : decode cX8_happens 171 = .ok (.iadd, 1) := by decide +kernel
theorem dX8_happens_172 : decode cX8_happens 172 = .ok (.iaload, 1) := by decide +kernel
theorem dX8_happens_173 : decode cX8_happens 173 = .ok (.iadd, 1) := by decide +kernel
theorem dX8_happens_174 : decode cX8_happens 174 = .ok (.istore 5, 2) := by decide +kernel
theorem dX8_happens_176 : decode cX8_happens 176 = .ok (.aload_n 0, 1) := by decide +kernel
theorem dX8_happens_177 : decode cX8_happens 177 = .ok (.getfield 74, 3) := by decide +kernel
theorem dX8_happens_180 : decode cX8_happens 180 = .ok (.iload 4, 2) := by decide +kernel
theorem dX8_happens_182 : decode cX8_happens 182 = .ok (.iload 5, 2) := by decide +kernel
theorem dX8_happens_184 : decode cX8_happens 184 = .ok (.iconst 3, 1) := by decide +kernel
theorem dX8_happens_185 : decode cX8_happens 185 = .ok (.if_icmp .le 7, 3) := by decide +kernel
theorem dX8_happens_188 : decode cX8_happens 188 = .ok (.iconst 3, 1) := by decide +kernel
theorem dX8_happens_189 : decode cX8_happens 189 = .ok (.goto 17, 3) := by decide +kernel
theorem dX8_happens_192 : decode cX8_happens 192 = .ok (.iload 5, 2) := by decide +kernel
theorem dX8_happens_194 : decode cX8_happens 194 = .ok (.bipush (-3), 2) := by decide +kernel
theorem dX8_happens_196 : decode cX8_happens 196 = .ok (.if_icmp .ge 8, 3) := by decide +kernel
theorem dX8_happens_199 : decode cX8_happens 199 = .ok (.bipush (-3), 2) := by decide +kernel
theorem dX8_happens_201 : decode cX8_happens 201 = .ok (.goto 5, 3) := by decide +kernel
theorem dX8_happens_204 : decode cX8_happens 204 = .ok (.iload 5, 2) := by decide +kernel
theorem dX8_happens_206 : decode cX8_happens 206 = .ok (.iastore, 1) := by decide +kernel
theorem dX8_happens_207 : decode cX8_happens 207 = .ok (.return_, 1) := by decide +kernel
