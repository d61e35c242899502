theorem dX12_town_0 : decode cX12_town 0 = .ok (.aload_n 0, 1) := by decide +kernel
theorem dX12_town_1 : decode cX12_town 1 = .ok (.iconst 0, 1) := by decide +kernel
theorem dX12_town_2 : decode cX12_town 2 = .ok (.putfield 1, 3) := by decide +kernel
theorem dX12_town_5 : decode cX12_town 5 = .ok (.aload_n 0, 1) := by decide +kernel
theorem dX12_town_6 : decode cX12_town 6 = .ok (.sipush 900, 3) := by decide +kernel
theorem dX12_town_9 : decode cX12_town 9 = .ok (.invokevirtual 234, 3) := by decide +kernel
theorem dX12_town_12 : decode cX12_town 12 = .ok (.aload_n 0, 1) := by decide +kernel
theorem dX12_town_13 : decode cX12_town 13 = .ok (.iconst 0, 1) := by decide +kernel
theorem dX12_town_14 : decode cX12_town 14 = .ok (.putfield 171, 3) := by decide +kernel
theorem dX12_town_17 : decode cX12_town 17 = .ok (.aload_n 0, 1) := by decide +kernel
theorem dX12_town_18 : decode cX12_town 18 = .ok (.iconst 0, 1) := by decide +kernel
theorem dX12_town_19 : decode cX12_town 19 = .ok (.putfield 237, 3) := by decide +kernel
theorem dX12_town_22 : decode cX12_town 22 = .ok (.aload_n 0, 1) := by decide +kernel
theorem dX12_town_23 : decode cX12_town 23 = .ok (.iconst 0, 1) := by decide +kernel
theorem dX12_town_24 : decode cX12_town 24 = .ok (.putfield 224, 3) := by decide +kernel
theorem dX12_town_27 : decode cX12_town 27 = .ok (.aload_n 0, 1) := by decide +kernel
theorem dX12_town_28 : decode cX12_town 28 = .ok (.invokevirtual 141, 3) := by decide +kernel
theorem dX12_town_31 : decode cX12_town 31 = .ok (.aload_n 0, 1) := by decide +kernel
theorem dX12_town_32 : decode cX12_town 32 = .ok (.invokevirtual 183, 3) := by decide +kernel
theorem dX12_town_35 : decode cX12_town 35 = .ok (.aload_n 0, 1) := by decide +kernel
theorem dX12_town_36 : decode cX12_town 36 = .ok (.getfield 154, 3) := by decide +kernel
theorem dX12_town_39 : decode cX12_town 39 = .ok (.ifCond .eq 39, 3) := by decide +kernel
theorem dX12_town_78 : decode cX12_town 78 = .ok (.iconst 0, 1) := by decide +kernel
theorem dX12_town_79 : decode cX12_town 79 = .ok (.istore_n 1, 1) := by decide +kernel
theorem dX12_town_80 : decode cX12_town 80 = .ok (.iload_n 1, 1) := by decide +kernel
theorem dX12_town_81 : decode cX12_town 81 = .ok (.sipush 283, 3) := by decide +kernel
theorem dX12_town_84 : decode cX12_town 84 = .ok (.if_icmp .ge 31, 3) := by decide +kernel
theorem dX12_town_87 : decode cX12_town 87 = .ok (.aload_n 0, 1) := by decide +kernel
theorem dX12_town_88 : decode cX12_town 88 = .ok (.getfield 33, 3) := by decide +kernel
theorem dX12_town_91 : decode cX12_town 91 = .ok (.iload_n 1, 1) := by decide +kernel
theorem dX12_town_92 : decode cX12_town 92 = .ok (.iload_n 1, 1) := by decide +kernel
theorem dX12_town_93 : decode cX12_town 93 = .ok (.bipush 67, 2) := by decide +kernel
theorem dX12_town_95 : decode cX12_town 95 = .ok (.if_icmp .ge 12, 3) := by decide +kernel
theorem dX12_town_98 : decode cX12_town 98 = .ok (.aload_n 0, 1) := by decide +kernel
theorem dX12_town_99 : decode cX12_town 99 = .ok (.getfield 37, 3) := by decide +kernel
theorem dX12_town_102 : decode cX12_town 102 = .ok (.iload_n 1, 1) := by decide +kernel
theorem dX12_town_103 : decode cX12_town 103 = .ok (.iaload, 1) := by decide +kernel
theorem dX12_town_104 : decode cX12_town 104 = .ok (.goto 4, 3) := by decide +kernel
theorem dX12_town_107 : decode cX12_town 107 = .ok (.iconst 0, 1) := by decide +kernel
theorem dX12_town_108 : decode cX12_town 108 = .ok (.iastore, 1) := by decide +kernel
theorem dX12_town_109 : decode cX12_town 109 = .ok (.iinc 1 1, 3) := by decide +kernel
theorem dX12_town_112 : decode cX12_town 112 = .ok (.goto (-32), 3) := by decide +kernel
theorem dX12_town_115 : decode cX12_town 115 = .ok (.iconst 0, 1) := by decide +kernel
theorem dX12_town_116 : decode cX12_town 116 = .ok (.istore_n 1, 1) := by decide +kernel
theorem dX12_town_117 : decode cX12_town 117 = .ok (.iload_n 1, 1) := by decide +kernel
theorem dX12_town_118 : decode cX12_town 118 = .ok (.bipush 18, 2) := by decide +kernel
theorem dX12_town_120 : decode cX12_town 120 = .ok (.if_icmp .ge 24, 3) := by decide +kernel
theorem dX12_town_123 : decode cX12_town 123 = .ok (.aload_n 0, 1) := by decide +kernel
theorem dX12_town_124 : decode cX12_town 124 = .ok (.getfield 43, 3) := by decide +kernel
theorem dX12_town_127 : decode cX12_town 127 = .ok (.iload_n 1, 1) := by decide +kernel
theorem dX12_town_128 : decode cX12_town 128 = .ok (.aload_n 0, 1) := by decide +kernel
theorem dX12_town_129 : decode cX12_town 129 = .ok (.getfield 43, 3) := by decide +kernel
theorem dX12_town_132 : decode cX12_town 132 = .ok (.bipush 18, 2) := by decide +kernel
theorem dX12_town_134 : decode cX12_town 134 = .ok (.iload_n 1, 1) := by decide +kernel
theorem dX12_town_135 : decode cX12_town 135 = .ok (.iadd, 1) := by decide +kernel
theorem dX12_town_136 : decode cX12_town 136 = .ok (.laload, 1) := by decide +kernel
theorem dX12_town_137 : decode cX12_town 137 = .ok (.lastore, 1) := by decide +kernel
theorem dX12_town_138 : decode cX12_town 138 = .ok (.iinc 1 1, 3) := by decide +kernel
theorem dX12_town_141 : decode cX12_town 141 = .ok (.goto (-24), 3) := by decide +kernel
theorem dX12_town_144 : decode cX12_town 144 = .ok (.iconst 0, 1) := by decide +kernel
theorem dX12_town_145 : decode cX12_town 145 = .ok (.istore_n 1, 1) := by decide +kernel
theorem dX12_town_146 : decode cX12_town 146 = .ok (.iload_n 1, 1) := by decide +kernel
theorem dX12_town_147 : decode cX12_town 147 = .ok (.bipush 7, 2) := by decide +kernel
theorem dX12_town_149 : decode cX12_town 149 = .ok (.if_icmp .ge 26, 3) := by decide +kernel
theorem dX12_town_152 : decode cX12_town 152 = .ok (.aload_n 0, 1) := by decide +kernel
theorem dX12_town_153 : decode cX12_town 153 = .ok (.getfield 33, 3) := by decide +kernel
theorem dX12_town_156 : decode cX12_town 156 = .ok (.bipush 69, 2) := by decide +kernel
theorem dX12_town_158 : decode cX12_town 158 = .ok (.iload_n 1, 1) := by decide +kernel
theorem dX12_town_159 : decode cX12_town 159 = .ok (.iadd, 1) := by decide +kernel
theorem dX12_town_160 : decode cX12_town 160 = .ok (.aload_n 0, 1) := by decide +kernel
theorem dX12_town_161 : decode cX12_town 161 = .ok (.getfield 33, 3) := by decide +kernel
theorem dX12_town_164 : decode cX12_town 164 = .ok (.iconst 5, 1) := by decide +kernel
theorem dX12_town_165 : decode cX12_town 165 = .ok (.iload_n 1, 1) := by decide +kernel
theorem dX12_town_166 : decode cX12_town 166 = .ok (.iadd, 1) := by decide +kernel
theorem dX12_town_167 : decode cX12_town 167 = .ok (.iaload, 1) := by decide +kernel
theorem dX12_town_168 : decode cX12_town 168 = .ok (.iastore, 1) := by decide +kernel
theorem dX12_town_169 : decode cX12_town 169 = .ok (.iinc 1 1, 3) := by decide +kernel
theorem dX12_town_172 : decode cX12_town 172 = .ok (.goto (-26), 3) := by decide +kernel
theorem dX12_town_175 : decode cX12_town 175 = .ok (.iconst 0, 1) := by decide +kernel
theorem dX12_town_176 : decode cX12_town 176 = .ok (.istore_n 1, 1) := by decide +kernel
theorem dX12_town_177 : decode cX12_town 177 = .ok (.iload_n 1, 1) := by decide +kernel
theorem dX12_town_178 : decode cX12_town 178 = .ok (.bipush 6, 2) := by decide +kernel
theorem dX12_town_180 : decode cX12_town 180 = .ok (.if_icmp .ge 45, 3) := by decide +kernel
theorem dX12_town_183 : decode cX12_town 183 = .ok (.aload_n 0, 1) := by decide +kernel
theorem dX12_town_184 : decode cX12_town 184 = .ok (.getfield 33, 3) := by decide +kernel
theorem dX12_town_187 : decode cX12_town 187 = .ok (.bipush 83, 2) := by decide +kernel
theorem dX12_town_189 : decode cX12_town 189 = .ok (.iload_n 1, 1) := by decide +kernel
theorem dX12_town_190 : decode cX12_town 190 = .ok (.iadd, 1) := by decide +kernel
theorem dX12_town_191 : decode cX12_town 191 = .ok (.aload_n 0, 1) := by decide +kernel
theorem dX12_town_192 : decode cX12_town 192 = .ok (.getfield 33, 3) := by decide +kernel
theorem dX12_town_195 : decode cX12_town 195 = .ok (.bipush 55, 2) := by decide +kernel
theorem dX12_town_197 : decode cX12_town 197 = .ok (.iload_n 1, 1) := by decide +kernel
theorem dX12_town_198 : decode cX12_town 198 = .ok (.iadd, 1) := by decide +kernel
theorem dX12_town_199 : decode cX12_town 199 = .ok (.iaload, 1) := by decide +kernel
theorem dX12_town_200 : decode cX12_town 200 = .ok (.iastore, 1) := by decide +kernel
theorem dX12_town_201 : decode cX12_town 201 = .ok (.aload_n 0, 1) := by decide +kernel
theorem dX12_town_202 : decode cX12_town 202 = .ok (.getfield 33, 3) := by decide +kernel
theorem dX12_town_205 : decode cX12_town 205 = .ok (.bipush 95, 2) := by decide +kernel
theorem dX12_town_207 : decode cX12_town 207 = .ok (.iload_n 1, 1) := by decide +kernel
theorem dX12_town_208 : decode cX12_town 208 = .ok (.iadd, 1) := by decide +kernel
theorem dX12_town_209 : decode cX12_town 209 = .ok (.aload_n 0, 1) := by decide +kernel
theorem dX12_town_210 : decode cX12_town 210 = .ok (.getfield 33, 3) := by decide +kernel
theorem dX12_town_213 : decode cX12_town 213 = .ok (.bipush 61, 2) := by decide +kernel
theorem dX12_town_215 : decode cX12_town 215 = .ok (.iload_n 1, 1) := by decide +kernel
theorem dX12_town_216 : decode cX12_town 216 = .ok (.iadd, 1) := by decide +kernel
theorem dX12_town_217 : decode cX12_town 217 = .ok (.iaload, 1) := by decide +kernel
theorem dX12_town_218 : decode cX12_town 218 = .ok (.iastore, 1) := by decide +kernel
theorem dX12_town_219 : decode cX12_town 219 = .ok (.iinc 1 1, 3) := by decide +kernel
theorem dX12_town_222 : decode cX12_town 222 = .ok (.goto (-45), 3) := by decide +kernel
theorem dX12_town_225 : decode cX12_town 225 = .ok (.aload_n 0, 1) := by decide +kernel
theorem dX12_town_226 : decode cX12_town 226 = .ok (.iconst 0, 1) := by decide +kernel
theorem dX12_town_227 : decode cX12_town 227 = .ok (.putfield 246, 3) := by decide +kernel
theorem dX12_town_230 : decode cX12_town 230 = .ok (.aload_n 0, 1) := by decide +kernel
theorem dX12_town_231 : decode cX12_town 231 = .ok (.getfield 237, 3) := by decide +kernel
theorem dX12_town_234 : decode cX12_town 234 = .ok (.ireturn, 1) := by decide +kernel
theorem dX12_book_0 : decode cX12_book 0 = .ok (.aload_n 0, 1) := by decide +kernel
theorem dX12_book_1 : decode cX12_book 1 = .ok (.iconst 0, 1) := by decide +kernel
theorem dX12_book_2 : decode cX12_book 2 = .ok (.putfield 1, 3) := by decide +kernel
theorem dX12_book_5 : decode cX12_book 5 = .ok (.iload_n 1, 1) := by decide +kernel
theorem dX12_book_6 : decode cX12_book 6 = .ok (.iconst 0, 1) := by decide +kernel
theorem dX12_book_7 : decode cX12_book 7 = .ok (.iconst 1, 1) := by decide +kernel
theorem dX12_book_8 : decode cX12_book 8 = .ok (.invokestatic 186, 3) := by decide +kernel
theorem dX12_book_11 : decode cX12_book 11 = .ok (.ifCond .ne 7, 3) := by decide +kernel
theorem dX12_book_14 : decode cX12_book 14 = .ok (.sipush (-1000), 3) := by decide +kernel
theorem dX12_book_17 : decode cX12_book 17 = .ok (.ireturn, 1) := by decide +kernel
theorem dX12_book_18 : decode cX12_book 18 = .ok (.aload_n 0, 1) := by decide +kernel
theorem dX12_book_19 : decode cX12_book 19 = .ok (.sipush 400, 3) := by decide +kernel
theorem dX12_book_22 : decode cX12_book 22 = .ok (.invokevirtual 234, 3) := by decide +kernel
theorem dX12_book_25 : decode cX12_book 25 = .ok (.aload_n 0, 1) := by decide +kernel
theorem dX12_book_26 : decode cX12_book 26 = .ok (.iconst 0, 1) := by decide +kernel
theorem dX12_book_27 : decode cX12_book 27 = .ok (.putfield 171, 3) := by decide +kernel
theorem dX12_book_30 : decode cX12_book 30 = .ok (.aload_n 0, 1) := by decide +kernel
theorem dX12_book_31 : decode cX12_book 31 = .ok (.iconst 0, 1) := by decide +kernel
theorem dX12_book_32 : decode cX12_book 32 = .ok (.putfield 440, 3) := by decide +kernel
theorem dX12_book_35 : decode cX12_book 35 = .ok (.aload_n 0, 1) := by decide +kernel
theorem dX12_book_36 : decode cX12_book 36 = .ok (.invokevirtual 183, 3) := by decide +kernel
theorem dX12_book_39 : decode cX12_book 39 = .ok (.aload_n 0, 1) := by decide +kernel
theorem dX12_book_40 : decode cX12_book 40 = .ok (.getfield 154, 3) := by decide +kernel
theorem dX12_book_43 : decode cX12_book 43 = .ok (.ifCond .eq 40, 3) := by decide +kernel
theorem dX12_book_83 : decode cX12_book 83 = .ok (.aload_n 0, 1) := by decide +kernel
theorem dX12_book_84 : decode cX12_book 84 = .ok (.invokevirtual 346, 3) := by decide +kernel
theorem dX12_book_87 : decode cX12_book 87 = .ok (.iconst 0, 1) := by decide +kernel
theorem dX12_book_88 : decode cX12_book 88 = .ok (.istore_n 2, 1) := by decide +kernel
theorem dX12_book_89 : decode cX12_book 89 = .ok (.iload_n 2, 1) := by decide +kernel
theorem dX12_book_90 : decode cX12_book 90 = .ok (.iconst 4, 1) := by decide +kernel
theorem dX12_book_91 : decode cX12_book 91 = .ok (.if_icmp .ge 16, 3) := by decide +kernel
theorem dX12_book_94 : decode cX12_book 94 = .ok (.aload_n 0, 1) := by decide +kernel
theorem dX12_book_95 : decode cX12_book 95 = .ok (.getfield 81, 3) := by decide +kernel
theorem dX12_book_98 : decode cX12_book 98 = .ok (.iload_n 2, 1) := by decide +kernel
theorem dX12_book_99 : decode cX12_book 99 = .ok (.iconst 0, 1) := by decide +kernel
theorem dX12_book_100 : decode cX12_book 100 = .ok (.iastore, 1) := by decide +kernel
theorem dX12_book_101 : decode cX12_book 101 = .ok (.iinc 2 1, 3) := by decide +kernel
theorem dX12_book_104 : decode cX12_book 104 = .ok (.goto (-15), 3) := by decide +kernel
theorem dX12_book_107 : decode cX12_book 107 = .ok (.iconst (-1), 1) := by decide +kernel
theorem dX12_book_108 : decode cX12_book 108 = .ok (.istore_n 2, 1) := by decide +kernel
theorem dX12_book_109 : decode cX12_book 109 = .ok (.iconst 0, 1) := by decide +kernel
theorem dX12_book_110 : decode cX12_book 110 = .ok (.istore_n 3, 1) := by decide +kernel
theorem dX12_book_111 : decode cX12_book 111 = .ok (.iload_n 3, 1) := by decide +kernel
theorem dX12_book_112 : decode cX12_book 112 = .ok (.aload_n 0, 1) := by decide +kernel
theorem dX12_book_113 : decode cX12_book 113 = .ok (.getfield 440, 3) := by decide +kernel
theorem dX12_book_116 : decode cX12_book 116 = .ok (.if_icmp .ge 75, 3) := by decide +kernel
theorem dX12_book_191 : decode cX12_book 191 = .ok (.aload_n 0, 1) := by decide +kernel
theorem dX12_book_192 : decode cX12_book 192 = .ok (.getfield 81, 3) := by decide +kernel
theorem dX12_book_195 : decode cX12_book 195 = .ok (.iconst 2, 1) := by decide +kernel
theorem dX12_book_196 : decode cX12_book 196 = .ok (.aload_n 0, 1) := by decide +kernel
theorem dX12_book_197 : decode cX12_book 197 = .ok (.getfield 33, 3) := by decide +kernel
theorem dX12_book_200 : decode cX12_book 200 = .ok (.bipush 67, 2) := by decide +kernel
theorem dX12_book_202 : decode cX12_book 202 = .ok (.iaload, 1) := by decide +kernel
theorem dX12_book_203 : decode cX12_book 203 = .ok (.iastore, 1) := by decide +kernel
theorem dX12_book_204 : decode cX12_book 204 = .ok (.aload_n 0, 1) := by decide +kernel
theorem dX12_book_205 : decode cX12_book 205 = .ok (.getfield 81, 3) := by decide +kernel
theorem dX12_book_208 : decode cX12_book 208 = .ok (.iconst 3, 1) := by decide +kernel
theorem dX12_book_209 : decode cX12_book 209 = .ok (.aload_n 0, 1) := by decide +kernel
theorem dX12_book_210 : decode cX12_book 210 = .ok (.invokevirtual 315, 3) := by decide +kernel
theorem dX12_book_213 : decode cX12_book 213 = .ok (.iastore, 1) := by decide +kernel
theorem dX12_book_214 : decode cX12_book 214 = .ok (.aload_n 0, 1) := by decide +kernel
theorem dX12_book_215 : decode cX12_book 215 = .ok (.iconst 1, 1) := by decide +kernel
theorem dX12_book_216 : decode cX12_book 216 = .ok (.putfield 449, 3) := by decide +kernel
theorem dX12_book_219 : decode cX12_book 219 = .ok (.iload_n 1, 1) := by decide +kernel
theorem dX12_book_220 : decode cX12_book 220 = .ok (.iconst 1, 1) := by decide +kernel
theorem dX12_book_221 : decode cX12_book 221 = .ok (.if_icmp .ne 52, 3) := by decide +kernel
theorem dX12_book_224 : decode cX12_book 224 = .ok (.aload_n 0, 1) := by decide +kernel
theorem dX12_book_225 : decode cX12_book 225 = .ok (.getfield 81, 3) := by decide +kernel
theorem dX12_book_228 : decode cX12_book 228 = .ok (.iconst 1, 1) := by decide +kernel
theorem dX12_book_229 : decode cX12_book 229 = .ok (.iaload, 1) := by decide +kernel
theorem dX12_book_230 : decode cX12_book 230 = .ok (.ifCond .le 43, 3) := by decide +kernel
theorem dX12_book_273 : decode cX12_book 273 = .ok (.iload_n 1, 1) := by decide +kernel
theorem dX12_book_274 : decode cX12_book 274 = .ok (.ifCond .ne 7, 3) := by decide +kernel
theorem dX12_book_277 : decode cX12_book 277 = .ok (.aload_n 0, 1) := by decide +kernel
theorem dX12_book_278 : decode cX12_book 278 = .ok (.invokevirtual 349, 3) := by decide +kernel
theorem dX12_book_281 : decode cX12_book 281 = .ok (.iload_n 2, 1) := by decide +kernel
theorem dX12_book_282 : decode cX12_book 282 = .ok (.ireturn, 1) := by decide +kernel
theorem dX12_image_0 : decode cX12_image 0 = .ok (.aload_n 0, 1) := by decide +kernel
theorem dX12_image_1 : decode cX12_image 1 = .ok (.iconst 0, 1) := by decide +kernel
theorem dX12_image_2 : decode cX12_image 2 = .ok (.putfield 1, 3) := by decide +kernel
theorem dX12_image_5 : decode cX12_image 5 = .ok (.iload_n 1, 1) := by decide +kernel
theorem dX12_image_6 : decode cX12_image 6 = .ok (.iconst 0, 1) := by decide +kernel
theorem dX12_image_7 : decode cX12_image 7 = .ok (.iconst 1, 1) := by decide +kernel
theorem dX12_image_8 : decode cX12_image 8 = .ok (.invokestatic 186, 3) := by decide +kernel
theorem dX12_image_11 : decode cX12_image 11 = .ok (.ifCond .ne 5, 3) := by decide +kernel
theorem dX12_image_14 : decode cX12_image 14 = .ok (.iconst 0, 1) := by decide +kernel
theorem dX12_image_15 : decode cX12_image 15 = .ok (.ireturn, 1) := by decide +kernel
theorem dX12_image_16 : decode cX12_image 16 = .ok (.iconst 0, 1) := by decide +kernel
theorem dX12_image_17 : decode cX12_image 17 = .ok (.istore_n 2, 1) := by decide +kernel
theorem dX12_image_18 : decode cX12_image 18 = .ok (.iload_n 2, 1) := by decide +kernel
theorem dX12_image_19 : decode cX12_image 19 = .ok (.sipush 283, 3) := by decide +kernel
theorem dX12_image_22 : decode cX12_image 22 = .ok (.if_icmp .ge 27, 3) := by decide +kernel
theorem dX12_image_25 : decode cX12_image 25 = .ok (.aload_n 0, 1) := by decide +kernel
theorem dX12_image_26 : decode cX12_image 26 = .ok (.getfield 90, 3) := by decide +kernel
theorem dX12_image_29 : decode cX12_image 29 = .ok (.sipush 283, 3) := by decide +kernel
theorem dX12_image_32 : decode cX12_image 32 = .ok (.iload_n 1, 1) := by decide +kernel
theorem dX12_image_33 : decode cX12_image 33 = .ok (.imul, 1) := by decide +kernel
theorem dX12_image_34 : decode cX12_image 34 = .ok (.iload_n 2, 1) := by decide +kernel
theorem dX12_image_35 : decode cX12_image 35 = .ok (.iadd, 1) := by decide +kernel
theorem dX12_image_36 : decode cX12_image 36 = .ok (.aload_n 0, 1) := by decide +kernel
theorem dX12_image_37 : decode cX12_image 37 = .ok (.getfield 33, 3) := by decide +kernel
theorem dX12_image_40 : decode cX12_image 40 = .ok (.iload_n 2, 1) := by decide +kernel
theorem dX12_image_41 : decode cX12_image 41 = .ok (.iaload, 1) := by decide +kernel
theorem dX12_image_42 : decode cX12_image 42 = .ok (.iastore, 1) := by decide +kernel
theorem dX12_image_43 : decode cX12_image 43 = .ok (.iinc 2 1, 3) := by decide +kernel
theorem dX12_image_46 : decode cX12_image 46 = .ok (.goto (-28), 3) := by decide +kernel
theorem dX12_image_49 : decode cX12_image 49 = .ok (.iconst 0, 1) := by decide +kernel
theorem dX12_image_50 : decode cX12_image 50 = .ok (.istore_n 2, 1) := by decide +kernel
theorem dX12_image_51 : decode cX12_image 51 = .ok (.iload_n 2, 1) := by decide +kernel
theorem dX12_image_52 : decode cX12_image 52 = .ok (.bipush 18, 2) := by decide +kernel
theorem dX12_image_54 : decode cX12_image 54 = .ok (.if_icmp .ge 26, 3) := by decide +kernel
theorem dX12_image_57 : decode cX12_image 57 = .ok (.aload_n 0, 1) := by decide +kernel
theorem dX12_image_58 : decode cX12_image 58 = .ok (.getfield 93, 3) := by decide +kernel
theorem dX12_image_61 : decode cX12_image 61 = .ok (.bipush 18, 2) := by decide +kernel
theorem dX12_image_63 : decode cX12_image 63 = .ok (.iload_n 1, 1) := by decide +kernel
theorem dX12_image_64 : decode cX12_image 64 = .ok (.imul, 1) := by decide +kernel
theorem dX12_image_65 : decode cX12_image 65 = .ok (.iload_n 2, 1) := by decide +kernel
theorem dX12_image_66 : decode cX12_image 66 = .ok (.iadd, 1) := by decide +kernel
theorem dX12_image_67 : decode cX12_image 67 = .ok (.aload_n 0, 1) := by decide +kernel
theorem dX12_image_68 : decode cX12_image 68 = .ok (.getfield 43, 3) := by decide +kernel
theorem dX12_image_71 : decode cX12_image 71 = .ok (.iload_n 2, 1) := by decide +kernel
theorem dX12_image_72 : decode cX12_image 72 = .ok (.laload, 1) := by decide +kernel
theorem dX12_image_73 : decode cX12_image 73 = .ok (.lastore, 1) := by decide +kernel
theorem dX12_image_74 : decode cX12_image 74 = .ok (.iinc 2 1, 3) := by decide +kernel
theorem dX12_image_77 : decode cX12_image 77 = .ok (.goto (-26), 3) := by decide +kernel
theorem dX12_image_80 : decode cX12_image 80 = .ok (.aload_n 0, 1) := by decide +kernel
theorem dX12_image_81 : decode cX12_image 81 = .ok (.getfield 96, 3) := by decide +kernel
theorem dX12_image_84 : decode cX12_image 84 = .ok (.iload_n 1, 1) := by decide +kernel
theorem dX12_image_85 : decode cX12_image 85 = .ok (.iconst 1, 1) := by decide +kernel
theorem dX12_image_86 : decode cX12_image 86 = .ok (.bastore, 1) := by decide +kernel
theorem dX12_image_87 : decode cX12_image 87 = .ok (.iconst 1, 1) := by decide +kernel
theorem dX12_image_88 : decode cX12_image 88 = .ok (.ireturn, 1) := by decide +kernel
set_option maxRecDepth 20000 in
theorem ggX12_town_X12_taken : GoodIn wsX12_town wsX12_taken := goodIn_r _ [15, 16, 17, 18, 19, 114, 115, 116, 117, 118, 119, 120, 121, 122, 123, 124, 125, 126, 127, 128, 129, 130, 131, 132, 133, 134, 135, 136, 137, 138, 139, 140, 141, 142, 143, 144, 145, 146, 147, 148, 149, 150, 151, 152, 153, 154, 155, 156, 157, 158, 159, 160, 161, 162, 163, 164, 165, 166, 167] (by decide +kernel) (by decide +kernel)
set_option maxRecDepth 20000 in
theorem gX12_town_X12_taken : GoodIn wsX12_town (wsV RX12 234 RX12 yX12_taken wsX12_taken) := goodIn_app (goodIn_of _ (by decide +kernel)) ggX12_town_X12_taken
set_option maxRecDepth 20000 in
theorem ggX12_town_X12_clears : GoodIn wsX12_town wsX12_clears := goodIn_r _ [23, 8, 114, 115, 116, 117, 118, 119, 120, 121, 122, 123, 124, 125, 126, 127, 128, 129, 130, 131, 132, 133, 134, 135, 136, 137, 138, 139, 140, 141, 142, 143, 144, 145, 146, 147, 148, 149, 150, 151, 152, 153, 154, 155, 156, 157, 158, 159, 160, 161, 162, 163, 164, 165, 166, 167] (by decide +kernel) (by decide +kernel)
set_option maxRecDepth 20000 in
theorem gX12_town_X12_clears : GoodIn wsX12_town (wsV RX12 141 RX12 yX12_clears wsX12_clears) := goodIn_app (goodIn_of _ (by decide +kernel)) ggX12_town_X12_clears
set_option maxRecDepth 20000 in
theorem ggX12_town_X12_step : GoodIn wsX12_town wsX12_step := goodIn_r _ [27, 18, 28, 29, 17, 19, 5, 30, 31, 32, 33, 34, 14, 35, 36, 37, 38, 39, 40, 41, 42, 114, 115, 116, 117, 118, 119, 120, 121, 122, 123, 124, 125, 126, 127, 128, 129, 130, 131, 132, 133, 134, 135, 136, 137, 138, 139, 140, 141, 142, 143, 144, 145, 146, 147, 148, 149, 150, 151, 152, 153, 154, 155, 156, 157, 158, 159, 160, 161, 162, 163, 164, 165, 166, 167] (by decide +kernel) (by decide +kernel)
set_option maxRecDepth 20000 in
theorem gX12_town_X12_step : GoodIn wsX12_town (wsV RX12 183 RX12 yX12_step wsX12_step) := goodIn_app (goodIn_of _ (by decide +kernel)) ggX12_town_X12_step
set_option maxRecDepth 20000 in
theorem ggX12_book_X12_isIn : GoodIn wsX12_book wsX12_isIn := goodIn_r _ [16] (by decide +kernel) (by decide +kernel)
set_option maxRecDepth 20000 in
theorem gX12_book_X12_isIn : GoodIn wsX12_book (va_wsS RX12 186 yX12_isIn wsX12_isIn) := goodIn_app (goodIn_of _ (by decide +kernel)) ggX12_book_X12_isIn
set_option maxRecDepth 20000 in
theorem ggX12_book_X12_taken : GoodIn wsX12_book wsX12_taken := goodIn_r _ [20, 21, 22, 23, 24, 189, 190, 191, 192, 193, 194, 195, 196, 197, 198, 199, 200, 201, 202, 203, 204, 205, 206, 207, 208, 209, 210, 211, 212, 213, 214, 215, 216, 217, 218, 219, 220, 221, 222, 223, 224, 225, 226, 227, 228, 229, 230, 231, 232, 233, 234, 235, 236, 237, 238, 239, 240, 241, 242] (by decide +kernel) (by decide +kernel)
set_option maxRecDepth 20000 in
theorem gX12_book_X12_taken : GoodIn wsX12_book (wsV RX12 234 RX12 yX12_taken wsX12_taken) := goodIn_app (goodIn_of _ (by decide +kernel)) ggX12_book_X12_taken
set_option maxRecDepth 20000 in
theorem ggX12_book_X12_step : GoodIn wsX12_book wsX12_step := goodIn_r _ [28, 23, 29, 30, 22, 24, 4, 31, 32, 33, 34, 35, 15, 36, 37, 38, 39, 40, 41, 42, 43, 189, 190, 191, 192, 193, 194, 195, 196, 197, 198, 199, 200, 201, 202, 203, 204, 205, 206, 207, 208, 209, 210, 211, 212, 213, 214, 215, 216, 217, 218, 219, 220, 221, 222, 223, 224, 225, 226, 227, 228, 229, 230, 231, 232, 233, 234, 235, 236, 237, 238, 239, 240, 241, 242] (by decide +kernel) (by decide +kernel)
set_option maxRecDepth 20000 in
theorem gX12_book_X12_step : GoodIn wsX12_book (wsV RX12 183 RX12 yX12_step wsX12_step) := goodIn_app (goodIn_of _ (by decide +kernel)) ggX12_book_X12_step
set_option maxRecDepth 20000 in
theorem ggX12_book_X12_tries : GoodIn wsX12_book wsX12_tries := goodIn_r _ [95, 12, 8, 189, 190, 191, 192, 193, 194, 195, 196, 197, 198, 199, 200, 201, 202, 203, 204, 205, 206, 207, 208, 209, 210, 211, 212, 213, 214, 215, 216, 217, 218, 219, 220, 221, 222, 223, 224, 225, 226, 227, 228, 229, 230, 231, 232, 233, 234, 235, 236, 237, 238, 239, 240, 241, 242] (by decide +kernel) (by decide +kernel)
set_option maxRecDepth 20000 in
theorem gX12_book_X12_tries : GoodIn wsX12_book (wsV RX12 346 RX12 yX12_tries wsX12_tries) := goodIn_app (goodIn_of _ (by decide +kernel)) ggX12_book_X12_tries
set_option maxRecDepth 20000 in
theorem ggX12_book_X12_openSet : GoodIn wsX12_book wsX12_openSet := goodIn_r _ [172, 8, 173, 174, 175, 15, 176, 177, 178, 179, 180, 149, 150, 151, 152, 104, 105, 106, 107, 153, 154, 155, 156, 157, 158, 159, 160, 161, 135, 136, 137, 120, 121, 122, 162, 163, 164, 165, 189, 190, 191, 192, 193, 194, 195, 196, 197, 198, 199, 200, 201, 202, 203, 204, 205, 206, 207, 208, 209, 210, 211, 212, 213, 214, 215, 216, 217, 218, 219, 220, 221, 222, 223, 224, 225, 226, 227, 228, 229, 230, 231, 232, 233, 234, 235, 236, 237, 238, 239, 240, 241, 242] (by decide +kernel) (by decide +kernel)
set_option maxRecDepth 20000 in
theorem gX12_book_X12_openSet : GoodIn wsX12_book (wsV RX12 315 RX12 yX12_openSet wsX12_openSet) := goodIn_app (goodIn_of _ (by decide +kernel)) ggX12_book_X12_openSet
set_option maxRecDepth 20000 in
theorem ggX12_book_X12_back : GoodIn wsX12_book wsX12_back := goodIn_r _ [188, 8, 12, 189, 190, 191, 192, 193, 194, 195, 196, 197, 198, 199, 200, 201, 202, 203, 204, 205, 206, 207, 208, 209, 210, 211, 212, 213, 214, 215, 216, 217, 218, 219, 220, 221, 222, 223, 224, 225, 226, 227, 228, 229, 230, 231, 232, 233, 234, 235, 236, 237, 238, 239, 240, 241, 242] (by decide +kernel) (by decide +kernel)
set_option maxRecDepth 20000 in
theorem gX12_book_X12_back : GoodIn wsX12_book (wsV RX12 349 RX12 yX12_back wsX12_back) := goodIn_app (goodIn_of _ (by decide +kernel)) ggX12_book_X12_back
set_option maxRecDepth 20000 in
theorem ggX12_image_X12_isIn : GoodIn wsX12_image wsX12_isIn := goodIn_r _ [10] (by decide +kernel) (by decide +kernel)
set_option maxRecDepth 20000 in
theorem gX12_image_X12_isIn : GoodIn wsX12_image (va_wsS RX12 186 yX12_isIn wsX12_isIn) := goodIn_app (goodIn_of _ (by decide +kernel)) ggX12_image_X12_isIn
def s_X12_book (p0 : Int32) : Int32 := if (s_X12_isIn p0 0 1) = 0 then ((-1000)) else (if p0 = 1 then ((-1)) else (if p0 = 0 then ((-1)) else ((-1))))
def s_X12_image (p0 : Int32) : Int32 := if (s_X12_isIn p0 0 1) = 0 then (0) else (1)
set_option maxHeartbeats 8000000 in
set_option maxRecDepth 100000 in
theorem k_X12_town (l : Launch) (D : va_G) (ad : Nat → Nat) (am : Nat → Nat) (tm : Nat → ClassId) (u_1 : Nat) (u_8 : Nat) (u_10 : Nat) (u_14 : Int32) (u_16 : Int32) (u_17 : Int64) (u_18 : Int32) (u_21 : Nat) (u_22 : Nat) (u_24 : Int32) (u_25 : Int32) (u_26 : Int32) (u_27 : Nat) (u_28 : Int32) (u_29 : Nat) (u_30 : Int32) (u_31 : Int32) (u_32 : Nat) (u_33 : Int32) (u_34 : Nat) (u_35 : Nat) (u_36 : Int32) (u_37 : Int32) (u_38 : Nat) (u_39 : Int32) (u_40 : Int32) (u_41 : Int32) (u_42 : Nat) (u_43 : Int32) (u_44 : Nat) (u_45 : Int32) (u_46 : Int32) (u_47 : Int32) (u_48 : Int32) (u_49 : Int32) (u_50 : Nat) (u_51 : Nat) (u_52 : Nat) (u_53 : Nat)  : z_Mi l yX12_town wsX12_town { frames := 2, cells := 0, slots := 0, locals := 43 } D ad [.ref (am 18)] [(am 1, .inl (tm 1, 283, .inl (upd (fun _ => 0) 4 2))), (am 3, .inl (tm 3, 36, .inr (.inl (fun _ => 0)))), (am 18, .inr (11, [.int 0, .ref u_1, .int 0, .int 0, .int 0, .int 0, .ref (am 1), .ref (am 19), .ref u_8, .ref (am 3), .ref u_10, .int 0, .int 0, .int 0, .int u_14, .int 0, .int u_16, .long u_17, .int u_18, .int 0, .int 0, .ref u_21, .ref u_22, .int 0, .int u_24, .int u_25, .int u_26, .ref u_27, .int u_28, .ref u_29, .int u_30, .int u_31, .ref u_32, .int u_33, .ref u_34, .ref u_35, .int u_36, .int u_37, .ref u_38, .int u_39, .int u_40, .int u_41, .ref u_42, .int u_43, .ref u_44, .int u_45, .int u_46, .int u_47, .int u_48, .int u_49, .ref u_50, .ref u_51, .ref u_52, .ref u_53])), (am 19, .inl (tm 18, 67, .inl (upd (fun _ => 0) 4 2)))] [(tm 1, .int), (tm 18, .int), (tm 3, .long)] 0 0 (fun r9 u9 => r9 = 0 ∧ u9 = ([], [])) := by
  refine z_ofI (cc := cX12_town) (maxL := 2) (rt := .int) (by decide) rfl (Nat.le_of_ble_eq_true rfl) ?_
  intro p e s m below meth c Q A ls hx hb hml hown hts hin hK hP hD hA hE hO hS hl hret
  have hown : s.vm.findClass RX12 = some m.cls := hown
  have hiX12 : ∀ w ∈ wsX120, w ∈ wsX12_town := fun _ h9 => List.mem_cons_of_mem _ (List.mem_append_right _ h9)
  have hl : lv_has ls 2 [(0, .ref (am 18))] := hl
  refine lv_aload_n hx hb dX12_town_0 rfl (lv_at hl 0 rfl) ?_
  refine lv_iconst (v := 0) hx hb dX12_town_1 (by decide) ?_
  refine va_put (D := D) (ci := 11) (v := .int 0) (ty := tyX12 0) (C := RX12) (T := TX12) (N := 54) hx hb hts hiX12 tyX12 tyX12_ok nmX12 hown hK hP hD hS 2 rfl rfl 0 (by decide) (hts _ (List.mem_of_getElem? (i := 1) rfl)) (fun _ h9 => h9) rfl (tyX12_ok 0 (by decide)) rfl rfl (Nat.le_of_ble_eq_true rfl) dX12_town_2 (fun H locs hP hD hS => ?_)
  have hP : va_P D vwCl [(am 1, .inl (tm 1, 283, .inl (upd (fun _ => 0) 4 2))), (am 3, .inl (tm 3, 36, .inr (.inl (fun _ => 0)))), (am 18, .inr (11, [.int 0, .ref u_1, .int 0, .int 0, .int 0, .int 0, .ref (am 1), .ref (am 19), .ref u_8, .ref (am 3), .ref u_10, .int 0, .int 0, .int 0, .int u_14, .int 0, .int u_16, .long u_17, .int u_18, .int 0, .int 0, .ref u_21, .ref u_22, .int 0, .int u_24, .int u_25, .int u_26, .ref u_27, .int u_28, .ref u_29, .int u_30, .int u_31, .ref u_32, .int u_33, .ref u_34, .ref u_35, .int u_36, .int u_37, .ref u_38, .int u_39, .int u_40, .int u_41, .ref u_42, .int u_43, .ref u_44, .int u_45, .int u_46, .int u_47, .int u_48, .int u_49, .ref u_50, .ref u_51, .ref u_52, .ref u_53])), (am 19, .inl (tm 18, 67, .inl (upd (fun _ => 0) 4 2)))] H := hP
  have hD : va_D A [(am 1, .inl (tm 1, 283, .inl (upd (fun _ => 0) 4 2))), (am 3, .inl (tm 3, 36, .inr (.inl (fun _ => 0)))), (am 18, .inr (11, [.int 0, .ref u_1, .int 0, .int 0, .int 0, .int 0, .ref (am 1), .ref (am 19), .ref u_8, .ref (am 3), .ref u_10, .int 0, .int 0, .int 0, .int u_14, .int 0, .int u_16, .long u_17, .int u_18, .int 0, .int 0, .ref u_21, .ref u_22, .int 0, .int u_24, .int u_25, .int u_26, .ref u_27, .int u_28, .ref u_29, .int u_30, .int u_31, .ref u_32, .int u_33, .ref u_34, .ref u_35, .int u_36, .int u_37, .ref u_38, .int u_39, .int u_40, .int u_41, .ref u_42, .int u_43, .ref u_44, .int u_45, .int u_46, .int u_47, .int u_48, .int u_49, .ref u_50, .ref u_51, .ref u_52, .ref u_53])), (am 19, .inl (tm 18, 67, .inl (upd (fun _ => 0) 4 2)))] := hD
  refine lv_aload_n hx hb dX12_town_5 rfl (lv_at hl 0 rfl) ?_
  refine lv_sipush (v := 900) hx hb dX12_town_6 (by decide) ?_
  have hc9 := (k_X12_taken l D ad am 900 0 u_1 (am 1) (am 19) u_8 (am 3) u_10 0 0 0 u_14 0 u_16 u_17 u_18 0 0 u_21 u_22 0 u_24 u_25 u_26 u_27 u_28 u_29 u_30 u_31 u_32 u_33 u_34 u_35 u_36 u_37 u_38 u_39 u_40 u_41 u_42 u_43 u_44 u_45 u_46 u_47 u_48 u_49 u_50 u_51 u_52 u_53 )
  refine z_callv (w0 := [(am 18, .inr (11, [.int 0, .ref u_1, .int 0, .int 0, .int 0, .int 0, .ref (am 1), .ref (am 19), .ref u_8, .ref (am 3), .ref u_10, .int 0, .int 0, .int 0, .int u_14, .int 0, .int u_16, .long u_17, .int u_18, .int 0, .int 0, .ref u_21, .ref u_22, .int 0, .int u_24, .int u_25, .int u_26, .ref u_27, .int u_28, .ref u_29, .int u_30, .int u_31, .ref u_32, .int u_33, .ref u_34, .ref u_35, .int u_36, .int u_37, .ref u_38, .int u_39, .int u_40, .int u_41, .ref u_42, .int u_43, .ref u_44, .int u_45, .int u_46, .int u_47, .int u_48, .int u_49, .ref u_50, .ref u_51, .ref u_52, .ref u_53]))]) (wr := [(am 1, .inl (tm 1, 283, .inl (upd (fun _ => 0) 4 2))), (am 3, .inl (tm 3, 36, .inr (.inl (fun _ => 0)))), (am 19, .inl (tm 18, 67, .inl (upd (fun _ => 0) 4 2)))]) (va_runV (As := [.int 900]) (rest := []) ⟨hx, hb, hml, hown, hts⟩ (hc9 _) (cwV 1 hts gX12_town_X12_taken rfl rfl rfl (by decide +kernel) ⟨Nat.le_of_ble_eq_true rfl, Nat.le_of_ble_eq_true rfl⟩) (z_preV hP hD hK hS hA hE hO [2] [] rfl (by decide +kernel) rfl 2 11 rfl rfl rfl) rfl rfl hl.1 rfl (lv_room (Nat.le_of_ble_eq_true rfl)) dX12_town_9 ⟨Nat.le_of_ble_eq_true rfl, Nat.le_of_ble_eq_true rfl⟩) hP hD hK hS hA [2] [0, 1, 3] rfl rfl (by decide +kernel) (by decide +kernel) (fun u9 H locs hw hP hD hK hS => ?_)
  obtain ⟨rfl⟩ := hw
  have hP : va_P D vwCl [(am 1, .inl (tm 1, 283, .inl (upd (fun _ => 0) 4 2))), (am 3, .inl (tm 3, 36, .inr (.inl (fun _ => 0)))), (am 19, .inl (tm 18, 67, .inl (upd (fun _ => 0) 4 2))), (am 18, .inr (11, [.int 0, .ref u_1, .int 0, .int 0, .int 0, .int 900, .ref (am 1), .ref (am 19), .ref u_8, .ref (am 3), .ref u_10, .int 0, .int 0, .int 0, .int u_14, .int 0, .int u_16, .long u_17, .int u_18, .int 0, .int 0, .ref u_21, .ref u_22, .int 0, .int u_24, .int u_25, .int u_26, .ref u_27, .int u_28, .ref u_29, .int u_30, .int u_31, .ref u_32, .int u_33, .ref u_34, .ref u_35, .int u_36, .int u_37, .ref u_38, .int u_39, .int u_40, .int u_41, .ref u_42, .int u_43, .ref u_44, .int u_45, .int u_46, .int u_47, .int u_48, .int u_49, .ref u_50, .ref u_51, .ref u_52, .ref u_53]))] H := hP
  have hD : va_D A [(am 1, .inl (tm 1, 283, .inl (upd (fun _ => 0) 4 2))), (am 3, .inl (tm 3, 36, .inr (.inl (fun _ => 0)))), (am 19, .inl (tm 18, 67, .inl (upd (fun _ => 0) 4 2))), (am 18, .inr (11, [.int 0, .ref u_1, .int 0, .int 0, .int 0, .int 900, .ref (am 1), .ref (am 19), .ref u_8, .ref (am 3), .ref u_10, .int 0, .int 0, .int 0, .int u_14, .int 0, .int u_16, .long u_17, .int u_18, .int 0, .int 0, .ref u_21, .ref u_22, .int 0, .int u_24, .int u_25, .int u_26, .ref u_27, .int u_28, .ref u_29, .int u_30, .int u_31, .ref u_32, .int u_33, .ref u_34, .ref u_35, .int u_36, .int u_37, .ref u_38, .int u_39, .int u_40, .int u_41, .ref u_42, .int u_43, .ref u_44, .int u_45, .int u_46, .int u_47, .int u_48, .int u_49, .ref u_50, .ref u_51, .ref u_52, .ref u_53]))] := hD
  have hK : va_K D vwCl [(tm 1, .int), (tm 18, .int), (tm 3, .long)] s := hK
  refine W.cs (cells' := 0) (slots' := 0) rfl rfl ?_
  refine lv_aload_n hx hb dX12_town_12 rfl (lv_at hl 0 rfl) ?_
  refine lv_iconst (v := 0) hx hb dX12_town_13 (by decide) ?_
  refine va_put (D := D) (ci := 11) (v := .int 0) (ty := tyX12 15) (C := RX12) (T := TX12) (N := 54) hx hb hts hiX12 tyX12 tyX12_ok nmX12 hown hK hP hD hS 3 rfl rfl 15 (by decide) (hts _ (List.mem_of_getElem? (i := 2) rfl)) (fun _ h9 => h9) rfl (tyX12_ok 15 (by decide)) rfl rfl (Nat.le_of_ble_eq_true rfl) dX12_town_14 (fun H locs hP hD hS => ?_)
  have hP : va_P D vwCl [(am 1, .inl (tm 1, 283, .inl (upd (fun _ => 0) 4 2))), (am 3, .inl (tm 3, 36, .inr (.inl (fun _ => 0)))), (am 19, .inl (tm 18, 67, .inl (upd (fun _ => 0) 4 2))), (am 18, .inr (11, [.int 0, .ref u_1, .int 0, .int 0, .int 0, .int 900, .ref (am 1), .ref (am 19), .ref u_8, .ref (am 3), .ref u_10, .int 0, .int 0, .int 0, .int u_14, .int 0, .int u_16, .long u_17, .int u_18, .int 0, .int 0, .ref u_21, .ref u_22, .int 0, .int u_24, .int u_25, .int u_26, .ref u_27, .int u_28, .ref u_29, .int u_30, .int u_31, .ref u_32, .int u_33, .ref u_34, .ref u_35, .int u_36, .int u_37, .ref u_38, .int u_39, .int u_40, .int u_41, .ref u_42, .int u_43, .ref u_44, .int u_45, .int u_46, .int u_47, .int u_48, .int u_49, .ref u_50, .ref u_51, .ref u_52, .ref u_53]))] H := hP
  have hD : va_D A [(am 1, .inl (tm 1, 283, .inl (upd (fun _ => 0) 4 2))), (am 3, .inl (tm 3, 36, .inr (.inl (fun _ => 0)))), (am 19, .inl (tm 18, 67, .inl (upd (fun _ => 0) 4 2))), (am 18, .inr (11, [.int 0, .ref u_1, .int 0, .int 0, .int 0, .int 900, .ref (am 1), .ref (am 19), .ref u_8, .ref (am 3), .ref u_10, .int 0, .int 0, .int 0, .int u_14, .int 0, .int u_16, .long u_17, .int u_18, .int 0, .int 0, .ref u_21, .ref u_22, .int 0, .int u_24, .int u_25, .int u_26, .ref u_27, .int u_28, .ref u_29, .int u_30, .int u_31, .ref u_32, .int u_33, .ref u_34, .ref u_35, .int u_36, .int u_37, .ref u_38, .int u_39, .int u_40, .int u_41, .ref u_42, .int u_43, .ref u_44, .int u_45, .int u_46, .int u_47, .int u_48, .int u_49, .ref u_50, .ref u_51, .ref u_52, .ref u_53]))] := hD
  refine lv_aload_n hx hb dX12_town_17 rfl (lv_at hl 0 rfl) ?_
  refine lv_iconst (v := 0) hx hb dX12_town_18 (by decide) ?_
  refine va_put (D := D) (ci := 11) (v := .int 0) (ty := tyX12 19) (C := RX12) (T := TX12) (N := 54) hx hb hts hiX12 tyX12 tyX12_ok nmX12 hown hK hP hD hS 3 rfl rfl 19 (by decide) (hts _ (List.mem_of_getElem? (i := 3) rfl)) (fun _ h9 => h9) rfl (tyX12_ok 19 (by decide)) rfl rfl (Nat.le_of_ble_eq_true rfl) dX12_town_19 (fun H locs hP hD hS => ?_)
  have hP : va_P D vwCl [(am 1, .inl (tm 1, 283, .inl (upd (fun _ => 0) 4 2))), (am 3, .inl (tm 3, 36, .inr (.inl (fun _ => 0)))), (am 19, .inl (tm 18, 67, .inl (upd (fun _ => 0) 4 2))), (am 18, .inr (11, [.int 0, .ref u_1, .int 0, .int 0, .int 0, .int 900, .ref (am 1), .ref (am 19), .ref u_8, .ref (am 3), .ref u_10, .int 0, .int 0, .int 0, .int u_14, .int 0, .int u_16, .long u_17, .int u_18, .int 0, .int 0, .ref u_21, .ref u_22, .int 0, .int u_24, .int u_25, .int u_26, .ref u_27, .int u_28, .ref u_29, .int u_30, .int u_31, .ref u_32, .int u_33, .ref u_34, .ref u_35, .int u_36, .int u_37, .ref u_38, .int u_39, .int u_40, .int u_41, .ref u_42, .int u_43, .ref u_44, .int u_45, .int u_46, .int u_47, .int u_48, .int u_49, .ref u_50, .ref u_51, .ref u_52, .ref u_53]))] H := hP
  have hD : va_D A [(am 1, .inl (tm 1, 283, .inl (upd (fun _ => 0) 4 2))), (am 3, .inl (tm 3, 36, .inr (.inl (fun _ => 0)))), (am 19, .inl (tm 18, 67, .inl (upd (fun _ => 0) 4 2))), (am 18, .inr (11, [.int 0, .ref u_1, .int 0, .int 0, .int 0, .int 900, .ref (am 1), .ref (am 19), .ref u_8, .ref (am 3), .ref u_10, .int 0, .int 0, .int 0, .int u_14, .int 0, .int u_16, .long u_17, .int u_18, .int 0, .int 0, .ref u_21, .ref u_22, .int 0, .int u_24, .int u_25, .int u_26, .ref u_27, .int u_28, .ref u_29, .int u_30, .int u_31, .ref u_32, .int u_33, .ref u_34, .ref u_35, .int u_36, .int u_37, .ref u_38, .int u_39, .int u_40, .int u_41, .ref u_42, .int u_43, .ref u_44, .int u_45, .int u_46, .int u_47, .int u_48, .int u_49, .ref u_50, .ref u_51, .ref u_52, .ref u_53]))] := hD
  refine lv_aload_n hx hb dX12_town_22 rfl (lv_at hl 0 rfl) ?_
  refine lv_iconst (v := 0) hx hb dX12_town_23 (by decide) ?_
  refine va_put (D := D) (ci := 11) (v := .int 0) (ty := tyX12 20) (C := RX12) (T := TX12) (N := 54) hx hb hts hiX12 tyX12 tyX12_ok nmX12 hown hK hP hD hS 3 rfl rfl 20 (by decide) (hts _ (List.mem_of_getElem? (i := 4) rfl)) (fun _ h9 => h9) rfl (tyX12_ok 20 (by decide)) (by decide) (by decide) (Nat.le_of_ble_eq_true rfl) dX12_town_24 (fun H locs hP hD hS => ?_)
  have hP : va_P D vwCl [(am 1, .inl (tm 1, 283, .inl (upd (fun _ => 0) 4 2))), (am 3, .inl (tm 3, 36, .inr (.inl (fun _ => 0)))), (am 19, .inl (tm 18, 67, .inl (upd (fun _ => 0) 4 2))), (am 18, .inr (11, [.int 0, .ref u_1, .int 0, .int 0, .int 0, .int 900, .ref (am 1), .ref (am 19), .ref u_8, .ref (am 3), .ref u_10, .int 0, .int 0, .int 0, .int u_14, .int 0, .int u_16, .long u_17, .int u_18, .int 0, .int 0, .ref u_21, .ref u_22, .int 0, .int u_24, .int u_25, .int u_26, .ref u_27, .int u_28, .ref u_29, .int u_30, .int u_31, .ref u_32, .int u_33, .ref u_34, .ref u_35, .int u_36, .int u_37, .ref u_38, .int u_39, .int u_40, .int u_41, .ref u_42, .int u_43, .ref u_44, .int u_45, .int u_46, .int u_47, .int u_48, .int u_49, .ref u_50, .ref u_51, .ref u_52, .ref u_53]))] H := hP
  have hD : va_D A [(am 1, .inl (tm 1, 283, .inl (upd (fun _ => 0) 4 2))), (am 3, .inl (tm 3, 36, .inr (.inl (fun _ => 0)))), (am 19, .inl (tm 18, 67, .inl (upd (fun _ => 0) 4 2))), (am 18, .inr (11, [.int 0, .ref u_1, .int 0, .int 0, .int 0, .int 900, .ref (am 1), .ref (am 19), .ref u_8, .ref (am 3), .ref u_10, .int 0, .int 0, .int 0, .int u_14, .int 0, .int u_16, .long u_17, .int u_18, .int 0, .int 0, .ref u_21, .ref u_22, .int 0, .int u_24, .int u_25, .int u_26, .ref u_27, .int u_28, .ref u_29, .int u_30, .int u_31, .ref u_32, .int u_33, .ref u_34, .ref u_35, .int u_36, .int u_37, .ref u_38, .int u_39, .int u_40, .int u_41, .ref u_42, .int u_43, .ref u_44, .int u_45, .int u_46, .int u_47, .int u_48, .int u_49, .ref u_50, .ref u_51, .ref u_52, .ref u_53]))] := hD
  refine lv_aload_n hx hb dX12_town_27 rfl (lv_at hl 0 rfl) ?_
  have hc9 := (k_X12_clearsV l D ad am tm (upd (fun _ => 0) 4 2) 0 u_1 0 0 0 900 (am 1) u_8 (am 3) u_10 0 0 0 u_14 0 u_16 u_17 u_18 0 0 u_21 u_22 0 u_24 u_25 u_26 u_27 u_28 u_29 u_30 u_31 u_32 u_33 u_34 u_35 u_36 u_37 u_38 u_39 u_40 u_41 u_42 u_43 u_44 u_45 u_46 u_47 u_48 u_49 u_50 u_51 u_52 u_53 )
  refine z_callv (w0 := [(am 18, .inr (11, [.int 0, .ref u_1, .int 0, .int 0, .int 0, .int 900, .ref (am 1), .ref (am 19), .ref u_8, .ref (am 3), .ref u_10, .int 0, .int 0, .int 0, .int u_14, .int 0, .int u_16, .long u_17, .int u_18, .int 0, .int 0, .ref u_21, .ref u_22, .int 0, .int u_24, .int u_25, .int u_26, .ref u_27, .int u_28, .ref u_29, .int u_30, .int u_31, .ref u_32, .int u_33, .ref u_34, .ref u_35, .int u_36, .int u_37, .ref u_38, .int u_39, .int u_40, .int u_41, .ref u_42, .int u_43, .ref u_44, .int u_45, .int u_46, .int u_47, .int u_48, .int u_49, .ref u_50, .ref u_51, .ref u_52, .ref u_53])), (am 19, .inl (tm 18, 67, .inl (upd (fun _ => 0) 4 2)))]) (wr := [(am 1, .inl (tm 1, 283, .inl (upd (fun _ => 0) 4 2))), (am 3, .inl (tm 3, 36, .inr (.inl (fun _ => 0))))]) (va_runV (As := []) (rest := []) ⟨hx, hb, hml, hown, hts⟩ (hc9 _) (cwV 0 hts gX12_town_X12_clears rfl rfl rfl (by decide +kernel) ⟨Nat.le_of_ble_eq_true rfl, Nat.le_of_ble_eq_true rfl⟩) (z_preV hP hD hK hS hA hE hO [3, 2] [1] rfl (by decide +kernel) rfl 3 11 rfl rfl rfl) rfl rfl hl.1 rfl (lv_room (Nat.le_of_ble_eq_true rfl)) dX12_town_28 ⟨Nat.le_of_ble_eq_true rfl, Nat.le_of_ble_eq_true rfl⟩) hP hD hK hS hA [3, 2] [0, 1] rfl rfl (by decide +kernel) (by decide +kernel) (fun u9 H locs hw hP hD hK hS => ?_)
  obtain ⟨f_1, rfl⟩ := hw
  have hP : va_P D vwCl [(am 1, .inl (tm 1, 283, .inl (upd (fun _ => 0) 4 2))), (am 3, .inl (tm 3, 36, .inr (.inl (fun _ => 0)))), (am 18, .inr (11, [.int 0, .ref u_1, .int 0, .int 0, .int 0, .int 900, .ref (am 1), .ref (am 19), .ref u_8, .ref (am 3), .ref u_10, .int 0, .int 0, .int 0, .int u_14, .int 0, .int u_16, .long u_17, .int u_18, .int 0, .int 0, .ref u_21, .ref u_22, .int 0, .int u_24, .int u_25, .int u_26, .ref u_27, .int u_28, .ref u_29, .int u_30, .int u_31, .ref u_32, .int u_33, .ref u_34, .ref u_35, .int u_36, .int u_37, .ref u_38, .int u_39, .int u_40, .int u_41, .ref u_42, .int u_43, .ref u_44, .int u_45, .int u_46, .int u_47, .int u_48, .int u_49, .ref u_50, .ref u_51, .ref u_52, .ref u_53])), (am 19, .inl (tm 18, 67, .inl f_1))] H := hP
  have hD : va_D A [(am 1, .inl (tm 1, 283, .inl (upd (fun _ => 0) 4 2))), (am 3, .inl (tm 3, 36, .inr (.inl (fun _ => 0)))), (am 18, .inr (11, [.int 0, .ref u_1, .int 0, .int 0, .int 0, .int 900, .ref (am 1), .ref (am 19), .ref u_8, .ref (am 3), .ref u_10, .int 0, .int 0, .int 0, .int u_14, .int 0, .int u_16, .long u_17, .int u_18, .int 0, .int 0, .ref u_21, .ref u_22, .int 0, .int u_24, .int u_25, .int u_26, .ref u_27, .int u_28, .ref u_29, .int u_30, .int u_31, .ref u_32, .int u_33, .ref u_34, .ref u_35, .int u_36, .int u_37, .ref u_38, .int u_39, .int u_40, .int u_41, .ref u_42, .int u_43, .ref u_44, .int u_45, .int u_46, .int u_47, .int u_48, .int u_49, .ref u_50, .ref u_51, .ref u_52, .ref u_53])), (am 19, .inl (tm 18, 67, .inl f_1))] := hD
  have hK : va_K D vwCl [(tm 1, .int), (tm 18, .int), (tm 3, .long)] s := hK
  refine W.cs (cells' := 0) (slots' := 0) rfl rfl ?_
  refine lv_aload_n hx hb dX12_town_31 rfl (lv_at hl 0 rfl) ?_
  have hc9 := (k_X12_step900 l D ad am 0 u_1 0 (am 1) (am 19) u_8 (am 3) u_10 u_14 0 u_16 u_17 u_18 0 0 u_21 u_22 0 u_24 u_25 u_26 u_27 u_28 u_29 u_30 u_31 u_32 u_33 u_34 u_35 u_36 u_37 u_38 u_39 u_40 u_41 u_42 u_43 u_44 u_45 u_46 u_47 u_48 u_49 u_50 u_51 u_52 u_53 )
  refine z_callv (w0 := [(am 18, .inr (11, [.int 0, .ref u_1, .int 0, .int 0, .int 0, .int 900, .ref (am 1), .ref (am 19), .ref u_8, .ref (am 3), .ref u_10, .int 0, .int 0, .int 0, .int u_14, .int 0, .int u_16, .long u_17, .int u_18, .int 0, .int 0, .ref u_21, .ref u_22, .int 0, .int u_24, .int u_25, .int u_26, .ref u_27, .int u_28, .ref u_29, .int u_30, .int u_31, .ref u_32, .int u_33, .ref u_34, .ref u_35, .int u_36, .int u_37, .ref u_38, .int u_39, .int u_40, .int u_41, .ref u_42, .int u_43, .ref u_44, .int u_45, .int u_46, .int u_47, .int u_48, .int u_49, .ref u_50, .ref u_51, .ref u_52, .ref u_53]))]) (wr := [(am 1, .inl (tm 1, 283, .inl (upd (fun _ => 0) 4 2))), (am 3, .inl (tm 3, 36, .inr (.inl (fun _ => 0)))), (am 19, .inl (tm 18, 67, .inl f_1))]) (va_runV (As := []) (rest := []) ⟨hx, hb, hml, hown, hts⟩ (hc9 _) (cwV 0 hts gX12_town_X12_step rfl rfl rfl (by decide +kernel) ⟨Nat.le_of_ble_eq_true rfl, Nat.le_of_ble_eq_true rfl⟩) (z_preV hP hD hK hS hA hE hO [2] [] rfl (by decide +kernel) rfl 2 11 rfl rfl rfl) rfl rfl hl.1 rfl (lv_room (Nat.le_of_ble_eq_true rfl)) dX12_town_32 ⟨Nat.le_of_ble_eq_true rfl, Nat.le_of_ble_eq_true rfl⟩) hP hD hK hS hA [2] [0, 1, 3] rfl rfl (by decide +kernel) (by decide +kernel) (fun u9 H locs hw hP hD hK hS => ?_)
  obtain ⟨rfl⟩ := hw
  have hP : va_P D vwCl [(am 1, .inl (tm 1, 283, .inl (upd (fun _ => 0) 4 2))), (am 3, .inl (tm 3, 36, .inr (.inl (fun _ => 0)))), (am 19, .inl (tm 18, 67, .inl f_1)), (am 18, .inr (11, [.int 0, .ref u_1, .int 0, .int 0, .int 0, .int 900, .ref (am 1), .ref (am 19), .ref u_8, .ref (am 3), .ref u_10, .int 0, .int 0, .int 0, .int u_14, .int 0, .int u_16, .long u_17, .int u_18, .int 0, .int 0, .ref u_21, .ref u_22, .int 0, .int u_24, .int u_25, .int u_26, .ref u_27, .int u_28, .ref u_29, .int u_30, .int u_31, .ref u_32, .int u_33, .ref u_34, .ref u_35, .int u_36, .int u_37, .ref u_38, .int u_39, .int u_40, .int u_41, .ref u_42, .int u_43, .ref u_44, .int u_45, .int u_46, .int u_47, .int u_48, .int u_49, .ref u_50, .ref u_51, .ref u_52, .ref u_53]))] H := hP
  have hD : va_D A [(am 1, .inl (tm 1, 283, .inl (upd (fun _ => 0) 4 2))), (am 3, .inl (tm 3, 36, .inr (.inl (fun _ => 0)))), (am 19, .inl (tm 18, 67, .inl f_1)), (am 18, .inr (11, [.int 0, .ref u_1, .int 0, .int 0, .int 0, .int 900, .ref (am 1), .ref (am 19), .ref u_8, .ref (am 3), .ref u_10, .int 0, .int 0, .int 0, .int u_14, .int 0, .int u_16, .long u_17, .int u_18, .int 0, .int 0, .ref u_21, .ref u_22, .int 0, .int u_24, .int u_25, .int u_26, .ref u_27, .int u_28, .ref u_29, .int u_30, .int u_31, .ref u_32, .int u_33, .ref u_34, .ref u_35, .int u_36, .int u_37, .ref u_38, .int u_39, .int u_40, .int u_41, .ref u_42, .int u_43, .ref u_44, .int u_45, .int u_46, .int u_47, .int u_48, .int u_49, .ref u_50, .ref u_51, .ref u_52, .ref u_53]))] := hD
  have hK : va_K D vwCl [(tm 1, .int), (tm 18, .int), (tm 3, .long)] s := hK
  refine W.cs (cells' := 0) (slots' := 0) rfl rfl ?_
  refine lv_aload_n hx hb dX12_town_35 rfl (lv_at hl 0 rfl) ?_
  refine va_get (D := D) (ci := 11) (v := .int 0) (C := RX12) (T := TX12) (N := 54) hx hb hts hiX12 hown hK hP 3 rfl rfl 11 (by decide) (hts _ (List.mem_of_getElem? (i := 5) rfl)) (fun _ h9 => h9) rfl dX12_town_36 ?_
  refine lv_if_eq (tgt := 78) hx hb dX12_town_39 (by decide) (fun _ => ?_) (fun h9 => absurd (by decide) h9)
  refine lv_iconst (v := 0) hx hb dX12_town_78 (by decide) ?_
  refine lv_istore_n (lv' := [(1, .int 0), (0, .ref (am 18))]) hx hb dX12_town_79 rfl hl (by decide) rfl (fun ls hl => ?_)
  have LP1 : ∀ (n k1 : Nat) (g1_0 : Nat → Int32) (H : Heap) (locs : List Loc) (ls : Array Slot), k1 ≤ 283 → 283 < k1 + n → va_P D vwCl [(am 1, .inl (tm 1, 283, .inl g1_0)), (am 3, .inl (tm 3, 36, .inr (.inl (fun _ => 0)))), (am 19, .inl (tm 18, 67, .inl f_1)), (am 18, .inr (11, [.int 0, .ref u_1, .int 0, .int 0, .int 0, .int 900, .ref (am 1), .ref (am 19), .ref u_8, .ref (am 3), .ref u_10, .int 0, .int 0, .int 0, .int u_14, .int 0, .int u_16, .long u_17, .int u_18, .int 0, .int 0, .ref u_21, .ref u_22, .int 0, .int u_24, .int u_25, .int u_26, .ref u_27, .int u_28, .ref u_29, .int u_30, .int u_31, .ref u_32, .int u_33, .ref u_34, .ref u_35, .int u_36, .int u_37, .ref u_38, .int u_39, .int u_40, .int u_41, .ref u_42, .int u_43, .ref u_44, .int u_45, .int u_46, .int u_47, .int u_48, .int u_49, .ref u_50, .ref u_51, .ref u_52, .ref u_53]))] H → va_D A [(am 1, .inl (tm 1, 283, .inl g1_0)), (am 3, .inl (tm 3, 36, .inr (.inl (fun _ => 0)))), (am 19, .inl (tm 18, 67, .inl f_1)), (am 18, .inr (11, [.int 0, .ref u_1, .int 0, .int 0, .int 0, .int 900, .ref (am 1), .ref (am 19), .ref u_8, .ref (am 3), .ref u_10, .int 0, .int 0, .int 0, .int u_14, .int 0, .int u_16, .long u_17, .int u_18, .int 0, .int 0, .ref u_21, .ref u_22, .int 0, .int u_24, .int u_25, .int u_26, .ref u_27, .int u_28, .ref u_29, .int u_30, .int u_31, .ref u_32, .int u_33, .ref u_34, .ref u_35, .int u_36, .int u_37, .ref u_38, .int u_39, .int u_40, .int u_41, .ref u_42, .int u_43, .ref u_44, .int u_45, .int u_46, .int u_47, .int u_48, .int u_49, .ref u_50, .ref u_51, .ref u_52, .ref u_53]))] → va_S A s.heap H locs → lv_has ls 2 [(1, .int (nI k1)), (0, .ref (am 18))] → W p l e ({ frames := 2, cells := 0, slots := 0, locals := 43 }) s m ([.ref (am 18)] : List Value).toArray below meth c H locs 0 0 Q (F0 m 80 ls []) := by
    intro n
    induction n with
    | zero => intro k1 g1_0 H locs ls h1 h2; exact absurd h2 (by omega)
    | succ n ih1 =>
      intro k1 g1_0 H locs ls hk1 hn1  hP hD hS hl
      refine lv_iload_n hx hb dX12_town_80 rfl (lv_at hl 0 rfl) ?_
      refine lv_sipush (v := 283) hx hb dX12_town_81 (by decide) ?_
      refine lv_icmp_ge (tgt := 115) hx hb dX12_town_84 (by decide) (fun c_2 => ?_) (fun c_2 => ?_)
      · have hek1 : k1 = 283 := by
          rcases Nat.lt_or_ge k1 283 with q | q
          · exact absurd c_2 (nI_ge q (by decide))
          · omega
        refine lv_iconst (v := 0) hx hb dX12_town_115 (by decide) ?_
        refine lv_istore_n (lv' := [(1, .int 0), (0, .ref (am 18))]) hx hb dX12_town_116 rfl hl (by decide) rfl (fun ls hl => ?_)
        have LP2 : ∀ (n k2 : Nat) (g2_0 : Nat → Int64) (H : Heap) (locs : List Loc) (ls : Array Slot), k2 ≤ 18 → 18 < k2 + n → va_P D vwCl [(am 1, .inl (tm 1, 283, .inl g1_0)), (am 3, .inl (tm 3, 36, .inr (.inl g2_0))), (am 19, .inl (tm 18, 67, .inl f_1)), (am 18, .inr (11, [.int 0, .ref u_1, .int 0, .int 0, .int 0, .int 900, .ref (am 1), .ref (am 19), .ref u_8, .ref (am 3), .ref u_10, .int 0, .int 0, .int 0, .int u_14, .int 0, .int u_16, .long u_17, .int u_18, .int 0, .int 0, .ref u_21, .ref u_22, .int 0, .int u_24, .int u_25, .int u_26, .ref u_27, .int u_28, .ref u_29, .int u_30, .int u_31, .ref u_32, .int u_33, .ref u_34, .ref u_35, .int u_36, .int u_37, .ref u_38, .int u_39, .int u_40, .int u_41, .ref u_42, .int u_43, .ref u_44, .int u_45, .int u_46, .int u_47, .int u_48, .int u_49, .ref u_50, .ref u_51, .ref u_52, .ref u_53]))] H → va_D A [(am 1, .inl (tm 1, 283, .inl g1_0)), (am 3, .inl (tm 3, 36, .inr (.inl g2_0))), (am 19, .inl (tm 18, 67, .inl f_1)), (am 18, .inr (11, [.int 0, .ref u_1, .int 0, .int 0, .int 0, .int 900, .ref (am 1), .ref (am 19), .ref u_8, .ref (am 3), .ref u_10, .int 0, .int 0, .int 0, .int u_14, .int 0, .int u_16, .long u_17, .int u_18, .int 0, .int 0, .ref u_21, .ref u_22, .int 0, .int u_24, .int u_25, .int u_26, .ref u_27, .int u_28, .ref u_29, .int u_30, .int u_31, .ref u_32, .int u_33, .ref u_34, .ref u_35, .int u_36, .int u_37, .ref u_38, .int u_39, .int u_40, .int u_41, .ref u_42, .int u_43, .ref u_44, .int u_45, .int u_46, .int u_47, .int u_48, .int u_49, .ref u_50, .ref u_51, .ref u_52, .ref u_53]))] → va_S A s.heap H locs → lv_has ls 2 [(1, .int (nI k2)), (0, .ref (am 18))] → W p l e ({ frames := 2, cells := 0, slots := 0, locals := 43 }) s m ([.ref (am 18)] : List Value).toArray below meth c H locs 0 0 Q (F0 m 117 ls []) := by
          intro n
          induction n with
          | zero => intro k2 g2_0 H locs ls h1 h2; exact absurd h2 (by omega)
          | succ n ih2 =>
            intro k2 g2_0 H locs ls hk2 hn2  hP hD hS hl
            refine lv_iload_n hx hb dX12_town_117 rfl (lv_at hl 0 rfl) ?_
            refine lv_bipush (v := 18) hx hb dX12_town_118 (by decide) ?_
            refine lv_icmp_ge (tgt := 144) hx hb dX12_town_120 (by decide) (fun c_3 => ?_) (fun c_3 => ?_)
            · have hek2 : k2 = 18 := by
                rcases Nat.lt_or_ge k2 18 with q | q
                · exact absurd c_3 (nI_ge q (by decide))
                · omega
              refine lv_iconst (v := 0) hx hb dX12_town_144 (by decide) ?_
              refine lv_istore_n (lv' := [(1, .int 0), (0, .ref (am 18))]) hx hb dX12_town_145 rfl hl (by decide) rfl (fun ls hl => ?_)
              have LP3 : ∀ (n k3 : Nat) (g3_0 : Nat → Int32) (H : Heap) (locs : List Loc) (ls : Array Slot), k3 ≤ 7 → 7 < k3 + n → va_P D vwCl [(am 1, .inl (tm 1, 283, .inl g3_0)), (am 3, .inl (tm 3, 36, .inr (.inl g2_0))), (am 19, .inl (tm 18, 67, .inl f_1)), (am 18, .inr (11, [.int 0, .ref u_1, .int 0, .int 0, .int 0, .int 900, .ref (am 1), .ref (am 19), .ref u_8, .ref (am 3), .ref u_10, .int 0, .int 0, .int 0, .int u_14, .int 0, .int u_16, .long u_17, .int u_18, .int 0, .int 0, .ref u_21, .ref u_22, .int 0, .int u_24, .int u_25, .int u_26, .ref u_27, .int u_28, .ref u_29, .int u_30, .int u_31, .ref u_32, .int u_33, .ref u_34, .ref u_35, .int u_36, .int u_37, .ref u_38, .int u_39, .int u_40, .int u_41, .ref u_42, .int u_43, .ref u_44, .int u_45, .int u_46, .int u_47, .int u_48, .int u_49, .ref u_50, .ref u_51, .ref u_52, .ref u_53]))] H → va_D A [(am 1, .inl (tm 1, 283, .inl g3_0)), (am 3, .inl (tm 3, 36, .inr (.inl g2_0))), (am 19, .inl (tm 18, 67, .inl f_1)), (am 18, .inr (11, [.int 0, .ref u_1, .int 0, .int 0, .int 0, .int 900, .ref (am 1), .ref (am 19), .ref u_8, .ref (am 3), .ref u_10, .int 0, .int 0, .int 0, .int u_14, .int 0, .int u_16, .long u_17, .int u_18, .int 0, .int 0, .ref u_21, .ref u_22, .int 0, .int u_24, .int u_25, .int u_26, .ref u_27, .int u_28, .ref u_29, .int u_30, .int u_31, .ref u_32, .int u_33, .ref u_34, .ref u_35, .int u_36, .int u_37, .ref u_38, .int u_39, .int u_40, .int u_41, .ref u_42, .int u_43, .ref u_44, .int u_45, .int u_46, .int u_47, .int u_48, .int u_49, .ref u_50, .ref u_51, .ref u_52, .ref u_53]))] → va_S A s.heap H locs → lv_has ls 2 [(1, .int (nI k3)), (0, .ref (am 18))] → W p l e ({ frames := 2, cells := 0, slots := 0, locals := 43 }) s m ([.ref (am 18)] : List Value).toArray below meth c H locs 0 0 Q (F0 m 146 ls []) := by
                intro n
                induction n with
                | zero => intro k3 g3_0 H locs ls h1 h2; exact absurd h2 (by omega)
                | succ n ih3 =>
                  intro k3 g3_0 H locs ls hk3 hn3  hP hD hS hl
                  refine lv_iload_n hx hb dX12_town_146 rfl (lv_at hl 0 rfl) ?_
                  refine lv_bipush (v := 7) hx hb dX12_town_147 (by decide) ?_
                  refine lv_icmp_ge (tgt := 175) hx hb dX12_town_149 (by decide) (fun c_4 => ?_) (fun c_4 => ?_)
                  · have hek3 : k3 = 7 := by
                      rcases Nat.lt_or_ge k3 7 with q | q
                      · exact absurd c_4 (nI_ge q (by decide))
                      · omega
                    refine lv_iconst (v := 0) hx hb dX12_town_175 (by decide) ?_
                    refine lv_istore_n (lv' := [(1, .int 0), (0, .ref (am 18))]) hx hb dX12_town_176 rfl hl (by decide) rfl (fun ls hl => ?_)
                    have LP4 : ∀ (n k4 : Nat) (g4_0 : Nat → Int32) (H : Heap) (locs : List Loc) (ls : Array Slot), k4 ≤ 6 → 6 < k4 + n → va_P D vwCl [(am 1, .inl (tm 1, 283, .inl g4_0)), (am 3, .inl (tm 3, 36, .inr (.inl g2_0))), (am 19, .inl (tm 18, 67, .inl f_1)), (am 18, .inr (11, [.int 0, .ref u_1, .int 0, .int 0, .int 0, .int 900, .ref (am 1), .ref (am 19), .ref u_8, .ref (am 3), .ref u_10, .int 0, .int 0, .int 0, .int u_14, .int 0, .int u_16, .long u_17, .int u_18, .int 0, .int 0, .ref u_21, .ref u_22, .int 0, .int u_24, .int u_25, .int u_26, .ref u_27, .int u_28, .ref u_29, .int u_30, .int u_31, .ref u_32, .int u_33, .ref u_34, .ref u_35, .int u_36, .int u_37, .ref u_38, .int u_39, .int u_40, .int u_41, .ref u_42, .int u_43, .ref u_44, .int u_45, .int u_46, .int u_47, .int u_48, .int u_49, .ref u_50, .ref u_51, .ref u_52, .ref u_53]))] H → va_D A [(am 1, .inl (tm 1, 283, .inl g4_0)), (am 3, .inl (tm 3, 36, .inr (.inl g2_0))), (am 19, .inl (tm 18, 67, .inl f_1)), (am 18, .inr (11, [.int 0, .ref u_1, .int 0, .int 0, .int 0, .int 900, .ref (am 1), .ref (am 19), .ref u_8, .ref (am 3), .ref u_10, .int 0, .int 0, .int 0, .int u_14, .int 0, .int u_16, .long u_17, .int u_18, .int 0, .int 0, .ref u_21, .ref u_22, .int 0, .int u_24, .int u_25, .int u_26, .ref u_27, .int u_28, .ref u_29, .int u_30, .int u_31, .ref u_32, .int u_33, .ref u_34, .ref u_35, .int u_36, .int u_37, .ref u_38, .int u_39, .int u_40, .int u_41, .ref u_42, .int u_43, .ref u_44, .int u_45, .int u_46, .int u_47, .int u_48, .int u_49, .ref u_50, .ref u_51, .ref u_52, .ref u_53]))] → va_S A s.heap H locs → lv_has ls 2 [(1, .int (nI k4)), (0, .ref (am 18))] → W p l e ({ frames := 2, cells := 0, slots := 0, locals := 43 }) s m ([.ref (am 18)] : List Value).toArray below meth c H locs 0 0 Q (F0 m 177 ls []) := by
                      intro n
                      induction n with
                      | zero => intro k4 g4_0 H locs ls h1 h2; exact absurd h2 (by omega)
                      | succ n ih4 =>
                        intro k4 g4_0 H locs ls hk4 hn4  hP hD hS hl
                        refine lv_iload_n hx hb dX12_town_177 rfl (lv_at hl 0 rfl) ?_
                        refine lv_bipush (v := 6) hx hb dX12_town_178 (by decide) ?_
                        refine lv_icmp_ge (tgt := 225) hx hb dX12_town_180 (by decide) (fun c_5 => ?_) (fun c_5 => ?_)
                        · have hek4 : k4 = 6 := by
                            rcases Nat.lt_or_ge k4 6 with q | q
                            · exact absurd c_5 (nI_ge q (by decide))
                            · omega
                          refine lv_aload_n hx hb dX12_town_225 rfl (lv_at hl 1 rfl) ?_
                          refine lv_iconst (v := 0) hx hb dX12_town_226 (by decide) ?_
                          refine va_put (D := D) (ci := 11) (v := .int 0) (ty := tyX12 23) (C := RX12) (T := TX12) (N := 54) hx hb hts hiX12 tyX12 tyX12_ok nmX12 hown hK hP hD hS 3 rfl rfl 23 (by decide) (hts _ (List.mem_of_getElem? (i := 10) rfl)) (fun _ h9 => h9) rfl (tyX12_ok 23 (by decide)) rfl rfl (Nat.le_of_ble_eq_true rfl) dX12_town_227 (fun H locs hP hD hS => ?_)
                          have hP : va_P D vwCl [(am 1, .inl (tm 1, 283, .inl g4_0)), (am 3, .inl (tm 3, 36, .inr (.inl g2_0))), (am 19, .inl (tm 18, 67, .inl f_1)), (am 18, .inr (11, [.int 0, .ref u_1, .int 0, .int 0, .int 0, .int 900, .ref (am 1), .ref (am 19), .ref u_8, .ref (am 3), .ref u_10, .int 0, .int 0, .int 0, .int u_14, .int 0, .int u_16, .long u_17, .int u_18, .int 0, .int 0, .ref u_21, .ref u_22, .int 0, .int u_24, .int u_25, .int u_26, .ref u_27, .int u_28, .ref u_29, .int u_30, .int u_31, .ref u_32, .int u_33, .ref u_34, .ref u_35, .int u_36, .int u_37, .ref u_38, .int u_39, .int u_40, .int u_41, .ref u_42, .int u_43, .ref u_44, .int u_45, .int u_46, .int u_47, .int u_48, .int u_49, .ref u_50, .ref u_51, .ref u_52, .ref u_53]))] H := hP
                          have hD : va_D A [(am 1, .inl (tm 1, 283, .inl g4_0)), (am 3, .inl (tm 3, 36, .inr (.inl g2_0))), (am 19, .inl (tm 18, 67, .inl f_1)), (am 18, .inr (11, [.int 0, .ref u_1, .int 0, .int 0, .int 0, .int 900, .ref (am 1), .ref (am 19), .ref u_8, .ref (am 3), .ref u_10, .int 0, .int 0, .int 0, .int u_14, .int 0, .int u_16, .long u_17, .int u_18, .int 0, .int 0, .ref u_21, .ref u_22, .int 0, .int u_24, .int u_25, .int u_26, .ref u_27, .int u_28, .ref u_29, .int u_30, .int u_31, .ref u_32, .int u_33, .ref u_34, .ref u_35, .int u_36, .int u_37, .ref u_38, .int u_39, .int u_40, .int u_41, .ref u_42, .int u_43, .ref u_44, .int u_45, .int u_46, .int u_47, .int u_48, .int u_49, .ref u_50, .ref u_51, .ref u_52, .ref u_53]))] := hD
                          refine lv_aload_n hx hb dX12_town_230 rfl (lv_at hl 1 rfl) ?_
                          refine va_get (D := D) (ci := 11) (v := .int 0) (C := RX12) (T := TX12) (N := 54) hx hb hts hiX12 hown hK hP 3 rfl rfl 19 (by decide) (hts _ (List.mem_of_getElem? (i := 3) rfl)) (fun _ h9 => h9) rfl dX12_town_231 ?_
                          refine W.widen (k := 0) (n := 0) (by decide) (by decide) ?_
                          exact hret 0 ([], []) _ _ _ _ dX12_town_234 rfl ⟨rfl, rfl⟩ (hP.sub [] rfl) (hK.sub [] rfl) (hD.sub [] (by decide +kernel) rfl) hS
                        · have hlt4 : k4 < 6 := by
                            rcases Nat.lt_or_ge k4 6 with q | q
                            · exact q
                            · exact absurd (nI_le q (by omega)) c_5
                          refine lv_aload_n hx hb dX12_town_183 rfl (lv_at hl 1 rfl) ?_
                          refine va_get (D := D) (ci := 11) (v := .ref (am 1)) (C := RX12) (T := TX12) (N := 54) hx hb hts hiX12 hown hK hP 3 rfl rfl 6 (by decide) (hts _ (List.mem_of_getElem? (i := 7) rfl)) (fun _ h9 => h9) rfl dX12_town_184 ?_
                          refine lv_bipush (v := 83) hx hb dX12_town_187 (by decide) ?_
                          refine lv_iload_n hx hb dX12_town_189 rfl (lv_at hl 0 rfl) ?_
                          refine lv_iadd hx hb dX12_town_190 ?_
                          refine lv_topi (fun y_6 ey_6 => ?_)
                          obtain rfl : y_6 = nI (83 + k4) := ey_6.trans (nI_add 83 k4)
                          refine lv_aload_n hx hb dX12_town_191 rfl (lv_at hl 1 rfl) ?_
                          refine va_get (D := D) (ci := 11) (v := .ref (am 1)) (C := RX12) (T := TX12) (N := 54) hx hb hts hiX12 hown hK hP 3 rfl rfl 6 (by decide) (hts _ (List.mem_of_getElem? (i := 7) rfl)) (fun _ h9 => h9) rfl dX12_town_192 ?_
                          refine lv_bipush (v := 55) hx hb dX12_town_195 (by decide) ?_
                          refine lv_iload_n hx hb dX12_town_197 rfl (lv_at hl 0 rfl) ?_
                          refine lv_iadd hx hb dX12_town_198 ?_
                          refine lv_topi (fun y_7 ey_7 => ?_)
                          obtain rfl : y_7 = nI (55 + k4) := ey_7.trans (nI_add 55 k4)
                          refine va_iald hx hb hK hP 0 0 rfl rfl (vp_in_nI (show (55 + k4) < 283 by omega) (by decide)) dX12_town_199 ?_
                          refine lv_topi (fun y_8 ey_8 => ?_)
                          refine va_iast hx hb hK hP hD hS 0 0 rfl rfl (vp_in_nI (show (83 + k4) < 283 by omega) (by decide)) dX12_town_200 (fun H locs hP hD hS => ?_)
                          rw [nI_clamp (show (83 + k4) < 2 ^ 31 by omega)] at hP hD
                          have hP : va_P D vwCl [(am 1, .inl (tm 1, 283, .inl (upd g4_0 (83 + k4) y_8))), (am 3, .inl (tm 3, 36, .inr (.inl g2_0))), (am 19, .inl (tm 18, 67, .inl f_1)), (am 18, .inr (11, [.int 0, .ref u_1, .int 0, .int 0, .int 0, .int 900, .ref (am 1), .ref (am 19), .ref u_8, .ref (am 3), .ref u_10, .int 0, .int 0, .int 0, .int u_14, .int 0, .int u_16, .long u_17, .int u_18, .int 0, .int 0, .ref u_21, .ref u_22, .int 0, .int u_24, .int u_25, .int u_26, .ref u_27, .int u_28, .ref u_29, .int u_30, .int u_31, .ref u_32, .int u_33, .ref u_34, .ref u_35, .int u_36, .int u_37, .ref u_38, .int u_39, .int u_40, .int u_41, .ref u_42, .int u_43, .ref u_44, .int u_45, .int u_46, .int u_47, .int u_48, .int u_49, .ref u_50, .ref u_51, .ref u_52, .ref u_53]))] H := hP
                          have hD : va_D A [(am 1, .inl (tm 1, 283, .inl (upd g4_0 (83 + k4) y_8))), (am 3, .inl (tm 3, 36, .inr (.inl g2_0))), (am 19, .inl (tm 18, 67, .inl f_1)), (am 18, .inr (11, [.int 0, .ref u_1, .int 0, .int 0, .int 0, .int 900, .ref (am 1), .ref (am 19), .ref u_8, .ref (am 3), .ref u_10, .int 0, .int 0, .int 0, .int u_14, .int 0, .int u_16, .long u_17, .int u_18, .int 0, .int 0, .ref u_21, .ref u_22, .int 0, .int u_24, .int u_25, .int u_26, .ref u_27, .int u_28, .ref u_29, .int u_30, .int u_31, .ref u_32, .int u_33, .ref u_34, .ref u_35, .int u_36, .int u_37, .ref u_38, .int u_39, .int u_40, .int u_41, .ref u_42, .int u_43, .ref u_44, .int u_45, .int u_46, .int u_47, .int u_48, .int u_49, .ref u_50, .ref u_51, .ref u_52, .ref u_53]))] := hD
                          generalize (upd g4_0 (83 + k4) y_8) = f_9 at hP hD
                          refine lv_aload_n hx hb dX12_town_201 rfl (lv_at hl 1 rfl) ?_
                          refine va_get (D := D) (ci := 11) (v := .ref (am 1)) (C := RX12) (T := TX12) (N := 54) hx hb hts hiX12 hown hK hP 3 rfl rfl 6 (by decide) (hts _ (List.mem_of_getElem? (i := 7) rfl)) (fun _ h9 => h9) rfl dX12_town_202 ?_
                          refine lv_bipush (v := 95) hx hb dX12_town_205 (by decide) ?_
                          refine lv_iload_n hx hb dX12_town_207 rfl (lv_at hl 0 rfl) ?_
                          refine lv_iadd hx hb dX12_town_208 ?_
                          refine lv_topi (fun y_10 ey_10 => ?_)
                          obtain rfl : y_10 = nI (95 + k4) := ey_10.trans (nI_add 95 k4)
                          refine lv_aload_n hx hb dX12_town_209 rfl (lv_at hl 1 rfl) ?_
                          refine va_get (D := D) (ci := 11) (v := .ref (am 1)) (C := RX12) (T := TX12) (N := 54) hx hb hts hiX12 hown hK hP 3 rfl rfl 6 (by decide) (hts _ (List.mem_of_getElem? (i := 7) rfl)) (fun _ h9 => h9) rfl dX12_town_210 ?_
                          refine lv_bipush (v := 61) hx hb dX12_town_213 (by decide) ?_
                          refine lv_iload_n hx hb dX12_town_215 rfl (lv_at hl 0 rfl) ?_
                          refine lv_iadd hx hb dX12_town_216 ?_
                          refine lv_topi (fun y_11 ey_11 => ?_)
                          obtain rfl : y_11 = nI (61 + k4) := ey_11.trans (nI_add 61 k4)
                          refine va_iald hx hb hK hP 0 0 rfl rfl (vp_in_nI (show (61 + k4) < 283 by omega) (by decide)) dX12_town_217 ?_
                          refine lv_topi (fun y_12 ey_12 => ?_)
                          refine va_iast hx hb hK hP hD hS 0 0 rfl rfl (vp_in_nI (show (95 + k4) < 283 by omega) (by decide)) dX12_town_218 (fun H locs hP hD hS => ?_)
                          rw [nI_clamp (show (95 + k4) < 2 ^ 31 by omega)] at hP hD
                          have hP : va_P D vwCl [(am 1, .inl (tm 1, 283, .inl (upd f_9 (95 + k4) y_12))), (am 3, .inl (tm 3, 36, .inr (.inl g2_0))), (am 19, .inl (tm 18, 67, .inl f_1)), (am 18, .inr (11, [.int 0, .ref u_1, .int 0, .int 0, .int 0, .int 900, .ref (am 1), .ref (am 19), .ref u_8, .ref (am 3), .ref u_10, .int 0, .int 0, .int 0, .int u_14, .int 0, .int u_16, .long u_17, .int u_18, .int 0, .int 0, .ref u_21, .ref u_22, .int 0, .int u_24, .int u_25, .int u_26, .ref u_27, .int u_28, .ref u_29, .int u_30, .int u_31, .ref u_32, .int u_33, .ref u_34, .ref u_35, .int u_36, .int u_37, .ref u_38, .int u_39, .int u_40, .int u_41, .ref u_42, .int u_43, .ref u_44, .int u_45, .int u_46, .int u_47, .int u_48, .int u_49, .ref u_50, .ref u_51, .ref u_52, .ref u_53]))] H := hP
                          have hD : va_D A [(am 1, .inl (tm 1, 283, .inl (upd f_9 (95 + k4) y_12))), (am 3, .inl (tm 3, 36, .inr (.inl g2_0))), (am 19, .inl (tm 18, 67, .inl f_1)), (am 18, .inr (11, [.int 0, .ref u_1, .int 0, .int 0, .int 0, .int 900, .ref (am 1), .ref (am 19), .ref u_8, .ref (am 3), .ref u_10, .int 0, .int 0, .int 0, .int u_14, .int 0, .int u_16, .long u_17, .int u_18, .int 0, .int 0, .ref u_21, .ref u_22, .int 0, .int u_24, .int u_25, .int u_26, .ref u_27, .int u_28, .ref u_29, .int u_30, .int u_31, .ref u_32, .int u_33, .ref u_34, .ref u_35, .int u_36, .int u_37, .ref u_38, .int u_39, .int u_40, .int u_41, .ref u_42, .int u_43, .ref u_44, .int u_45, .int u_46, .int u_47, .int u_48, .int u_49, .ref u_50, .ref u_51, .ref u_52, .ref u_53]))] := hD
                          generalize (upd f_9 (95 + k4) y_12) = f_13 at hP hD
                          refine lv_iinc (v := nI (k4 + 1)) (lv' := [(1, .int (nI (k4 + 1))), (0, .ref (am 18))]) hx hb dX12_town_219 hl (k := 0) rfl (nI_1 k4) (by decide) rfl (fun ls hl => ?_)
                          refine lv_goto (tgt := 177) hx hb dX12_town_222 (by decide) ?_
                          exact ih4 (k4 + 1) f_13 _ _ _ (by omega) (by omega)  hP hD hS (lv_sub hl [0, 1] rfl)
                    exact LP4 (6 + 1) 0 g3_0 _ _ _ (by omega) (by omega)  hP hD hS hl
                  · have hlt3 : k3 < 7 := by
                      rcases Nat.lt_or_ge k3 7 with q | q
                      · exact q
                      · exact absurd (nI_le q (by omega)) c_4
                    refine lv_aload_n hx hb dX12_town_152 rfl (lv_at hl 1 rfl) ?_
                    refine va_get (D := D) (ci := 11) (v := .ref (am 1)) (C := RX12) (T := TX12) (N := 54) hx hb hts hiX12 hown hK hP 3 rfl rfl 6 (by decide) (hts _ (List.mem_of_getElem? (i := 7) rfl)) (fun _ h9 => h9) rfl dX12_town_153 ?_
                    refine lv_bipush (v := 69) hx hb dX12_town_156 (by decide) ?_
                    refine lv_iload_n hx hb dX12_town_158 rfl (lv_at hl 0 rfl) ?_
                    refine lv_iadd hx hb dX12_town_159 ?_
                    refine lv_topi (fun y_14 ey_14 => ?_)
                    obtain rfl : y_14 = nI (69 + k3) := ey_14.trans (nI_add 69 k3)
                    refine lv_aload_n hx hb dX12_town_160 rfl (lv_at hl 1 rfl) ?_
                    refine va_get (D := D) (ci := 11) (v := .ref (am 1)) (C := RX12) (T := TX12) (N := 54) hx hb hts hiX12 hown hK hP 3 rfl rfl 6 (by decide) (hts _ (List.mem_of_getElem? (i := 7) rfl)) (fun _ h9 => h9) rfl dX12_town_161 ?_
                    refine lv_iconst (v := 5) hx hb dX12_town_164 (by decide) ?_
                    refine lv_iload_n hx hb dX12_town_165 rfl (lv_at hl 0 rfl) ?_
                    refine lv_iadd hx hb dX12_town_166 ?_
                    refine lv_topi (fun y_15 ey_15 => ?_)
                    obtain rfl : y_15 = nI (5 + k3) := ey_15.trans (nI_add 5 k3)
                    refine va_iald hx hb hK hP 0 0 rfl rfl (vp_in_nI (show (5 + k3) < 283 by omega) (by decide)) dX12_town_167 ?_
                    refine lv_topi (fun y_16 ey_16 => ?_)
                    refine va_iast hx hb hK hP hD hS 0 0 rfl rfl (vp_in_nI (show (69 + k3) < 283 by omega) (by decide)) dX12_town_168 (fun H locs hP hD hS => ?_)
                    rw [nI_clamp (show (69 + k3) < 2 ^ 31 by omega)] at hP hD
                    have hP : va_P D vwCl [(am 1, .inl (tm 1, 283, .inl (upd g3_0 (69 + k3) y_16))), (am 3, .inl (tm 3, 36, .inr (.inl g2_0))), (am 19, .inl (tm 18, 67, .inl f_1)), (am 18, .inr (11, [.int 0, .ref u_1, .int 0, .int 0, .int 0, .int 900, .ref (am 1), .ref (am 19), .ref u_8, .ref (am 3), .ref u_10, .int 0, .int 0, .int 0, .int u_14, .int 0, .int u_16, .long u_17, .int u_18, .int 0, .int 0, .ref u_21, .ref u_22, .int 0, .int u_24, .int u_25, .int u_26, .ref u_27, .int u_28, .ref u_29, .int u_30, .int u_31, .ref u_32, .int u_33, .ref u_34, .ref u_35, .int u_36, .int u_37, .ref u_38, .int u_39, .int u_40, .int u_41, .ref u_42, .int u_43, .ref u_44, .int u_45, .int u_46, .int u_47, .int u_48, .int u_49, .ref u_50, .ref u_51, .ref u_52, .ref u_53]))] H := hP
                    have hD : va_D A [(am 1, .inl (tm 1, 283, .inl (upd g3_0 (69 + k3) y_16))), (am 3, .inl (tm 3, 36, .inr (.inl g2_0))), (am 19, .inl (tm 18, 67, .inl f_1)), (am 18, .inr (11, [.int 0, .ref u_1, .int 0, .int 0, .int 0, .int 900, .ref (am 1), .ref (am 19), .ref u_8, .ref (am 3), .ref u_10, .int 0, .int 0, .int 0, .int u_14, .int 0, .int u_16, .long u_17, .int u_18, .int 0, .int 0, .ref u_21, .ref u_22, .int 0, .int u_24, .int u_25, .int u_26, .ref u_27, .int u_28, .ref u_29, .int u_30, .int u_31, .ref u_32, .int u_33, .ref u_34, .ref u_35, .int u_36, .int u_37, .ref u_38, .int u_39, .int u_40, .int u_41, .ref u_42, .int u_43, .ref u_44, .int u_45, .int u_46, .int u_47, .int u_48, .int u_49, .ref u_50, .ref u_51, .ref u_52, .ref u_53]))] := hD
                    generalize (upd g3_0 (69 + k3) y_16) = f_17 at hP hD
                    refine lv_iinc (v := nI (k3 + 1)) (lv' := [(1, .int (nI (k3 + 1))), (0, .ref (am 18))]) hx hb dX12_town_169 hl (k := 0) rfl (nI_1 k3) (by decide) rfl (fun ls hl => ?_)
                    refine lv_goto (tgt := 146) hx hb dX12_town_172 (by decide) ?_
                    exact ih3 (k3 + 1) f_17 _ _ _ (by omega) (by omega)  hP hD hS (lv_sub hl [0, 1] rfl)
              exact LP3 (7 + 1) 0 g1_0 _ _ _ (by omega) (by omega)  hP hD hS hl
            · have hlt2 : k2 < 18 := by
                rcases Nat.lt_or_ge k2 18 with q | q
                · exact q
                · exact absurd (nI_le q (by omega)) c_3
              refine lv_aload_n hx hb dX12_town_123 rfl (lv_at hl 1 rfl) ?_
              refine va_get (D := D) (ci := 11) (v := .ref (am 3)) (C := RX12) (T := TX12) (N := 54) hx hb hts hiX12 hown hK hP 3 rfl rfl 9 (by decide) (hts _ (List.mem_of_getElem? (i := 9) rfl)) (fun _ h9 => h9) rfl dX12_town_124 ?_
              refine lv_iload_n hx hb dX12_town_127 rfl (lv_at hl 0 rfl) ?_
              refine lv_aload_n hx hb dX12_town_128 rfl (lv_at hl 1 rfl) ?_
              refine va_get (D := D) (ci := 11) (v := .ref (am 3)) (C := RX12) (T := TX12) (N := 54) hx hb hts hiX12 hown hK hP 3 rfl rfl 9 (by decide) (hts _ (List.mem_of_getElem? (i := 9) rfl)) (fun _ h9 => h9) rfl dX12_town_129 ?_
              refine lv_bipush (v := 18) hx hb dX12_town_132 (by decide) ?_
              refine lv_iload_n hx hb dX12_town_134 rfl (lv_at hl 0 rfl) ?_
              refine lv_iadd hx hb dX12_town_135 ?_
              refine lv_topi (fun y_18 ey_18 => ?_)
              obtain rfl : y_18 = nI (18 + k2) := ey_18.trans (nI_add 18 k2)
              refine va_lald hx hb hK hP 1 2 rfl rfl (vp_in_nI (show (18 + k2) < 36 by omega) (by decide)) dX12_town_136 ?_
              refine lv_topl (fun y_19 ey_19 => ?_)
              refine va_last hx hb hK hP hD hS 1 2 rfl rfl (vp_in_nI (show k2 < 36 by omega) (by decide)) dX12_town_137 (fun H locs hP hD hS => ?_)
              rw [nI_clamp (show k2 < 2 ^ 31 by omega)] at hP hD
              have hP : va_P D vwCl [(am 1, .inl (tm 1, 283, .inl g1_0)), (am 3, .inl (tm 3, 36, .inr (.inl (vp_updL g2_0 k2 y_19)))), (am 19, .inl (tm 18, 67, .inl f_1)), (am 18, .inr (11, [.int 0, .ref u_1, .int 0, .int 0, .int 0, .int 900, .ref (am 1), .ref (am 19), .ref u_8, .ref (am 3), .ref u_10, .int 0, .int 0, .int 0, .int u_14, .int 0, .int u_16, .long u_17, .int u_18, .int 0, .int 0, .ref u_21, .ref u_22, .int 0, .int u_24, .int u_25, .int u_26, .ref u_27, .int u_28, .ref u_29, .int u_30, .int u_31, .ref u_32, .int u_33, .ref u_34, .ref u_35, .int u_36, .int u_37, .ref u_38, .int u_39, .int u_40, .int u_41, .ref u_42, .int u_43, .ref u_44, .int u_45, .int u_46, .int u_47, .int u_48, .int u_49, .ref u_50, .ref u_51, .ref u_52, .ref u_53]))] H := hP
              have hD : va_D A [(am 1, .inl (tm 1, 283, .inl g1_0)), (am 3, .inl (tm 3, 36, .inr (.inl (vp_updL g2_0 k2 y_19)))), (am 19, .inl (tm 18, 67, .inl f_1)), (am 18, .inr (11, [.int 0, .ref u_1, .int 0, .int 0, .int 0, .int 900, .ref (am 1), .ref (am 19), .ref u_8, .ref (am 3), .ref u_10, .int 0, .int 0, .int 0, .int u_14, .int 0, .int u_16, .long u_17, .int u_18, .int 0, .int 0, .ref u_21, .ref u_22, .int 0, .int u_24, .int u_25, .int u_26, .ref u_27, .int u_28, .ref u_29, .int u_30, .int u_31, .ref u_32, .int u_33, .ref u_34, .ref u_35, .int u_36, .int u_37, .ref u_38, .int u_39, .int u_40, .int u_41, .ref u_42, .int u_43, .ref u_44, .int u_45, .int u_46, .int u_47, .int u_48, .int u_49, .ref u_50, .ref u_51, .ref u_52, .ref u_53]))] := hD
              generalize (vp_updL g2_0 k2 y_19) = f_20 at hP hD
              refine lv_iinc (v := nI (k2 + 1)) (lv' := [(1, .int (nI (k2 + 1))), (0, .ref (am 18))]) hx hb dX12_town_138 hl (k := 0) rfl (nI_1 k2) (by decide) rfl (fun ls hl => ?_)
              refine lv_goto (tgt := 117) hx hb dX12_town_141 (by decide) ?_
              exact ih2 (k2 + 1) f_20 _ _ _ (by omega) (by omega)  hP hD hS (lv_sub hl [0, 1] rfl)
        exact LP2 (18 + 1) 0 (fun _ => 0) _ _ _ (by omega) (by omega)  hP hD hS hl
      · have hlt1 : k1 < 283 := by
          rcases Nat.lt_or_ge k1 283 with q | q
          · exact q
          · exact absurd (nI_le q (by omega)) c_2
        refine lv_aload_n hx hb dX12_town_87 rfl (lv_at hl 1 rfl) ?_
        refine va_get (D := D) (ci := 11) (v := .ref (am 1)) (C := RX12) (T := TX12) (N := 54) hx hb hts hiX12 hown hK hP 3 rfl rfl 6 (by decide) (hts _ (List.mem_of_getElem? (i := 7) rfl)) (fun _ h9 => h9) rfl dX12_town_88 ?_
        refine lv_iload_n hx hb dX12_town_91 rfl (lv_at hl 0 rfl) ?_
        refine lv_iload_n hx hb dX12_town_92 rfl (lv_at hl 0 rfl) ?_
        refine lv_bipush (v := 67) hx hb dX12_town_93 (by decide) ?_
        refine lv_icmp_ge (tgt := 107) hx hb dX12_town_95 (by decide) (fun c_21 => ?_) (fun c_21 => ?_)
        · refine lv_iconst (v := 0) hx hb dX12_town_107 (by decide) ?_
          refine va_iast hx hb hK hP hD hS 0 0 rfl rfl (vp_in_nI (show k1 < 283 by omega) (by decide)) dX12_town_108 (fun H locs hP hD hS => ?_)
          rw [nI_clamp (show k1 < 2 ^ 31 by omega)] at hP hD
          have hP : va_P D vwCl [(am 1, .inl (tm 1, 283, .inl (upd g1_0 k1 0))), (am 3, .inl (tm 3, 36, .inr (.inl (fun _ => 0)))), (am 19, .inl (tm 18, 67, .inl f_1)), (am 18, .inr (11, [.int 0, .ref u_1, .int 0, .int 0, .int 0, .int 900, .ref (am 1), .ref (am 19), .ref u_8, .ref (am 3), .ref u_10, .int 0, .int 0, .int 0, .int u_14, .int 0, .int u_16, .long u_17, .int u_18, .int 0, .int 0, .ref u_21, .ref u_22, .int 0, .int u_24, .int u_25, .int u_26, .ref u_27, .int u_28, .ref u_29, .int u_30, .int u_31, .ref u_32, .int u_33, .ref u_34, .ref u_35, .int u_36, .int u_37, .ref u_38, .int u_39, .int u_40, .int u_41, .ref u_42, .int u_43, .ref u_44, .int u_45, .int u_46, .int u_47, .int u_48, .int u_49, .ref u_50, .ref u_51, .ref u_52, .ref u_53]))] H := hP
          have hD : va_D A [(am 1, .inl (tm 1, 283, .inl (upd g1_0 k1 0))), (am 3, .inl (tm 3, 36, .inr (.inl (fun _ => 0)))), (am 19, .inl (tm 18, 67, .inl f_1)), (am 18, .inr (11, [.int 0, .ref u_1, .int 0, .int 0, .int 0, .int 900, .ref (am 1), .ref (am 19), .ref u_8, .ref (am 3), .ref u_10, .int 0, .int 0, .int 0, .int u_14, .int 0, .int u_16, .long u_17, .int u_18, .int 0, .int 0, .ref u_21, .ref u_22, .int 0, .int u_24, .int u_25, .int u_26, .ref u_27, .int u_28, .ref u_29, .int u_30, .int u_31, .ref u_32, .int u_33, .ref u_34, .ref u_35, .int u_36, .int u_37, .ref u_38, .int u_39, .int u_40, .int u_41, .ref u_42, .int u_43, .ref u_44, .int u_45, .int u_46, .int u_47, .int u_48, .int u_49, .ref u_50, .ref u_51, .ref u_52, .ref u_53]))] := hD
          generalize (upd g1_0 k1 0) = f_22 at hP hD
          refine lv_iinc (v := nI (k1 + 1)) (lv' := [(1, .int (nI (k1 + 1))), (0, .ref (am 18))]) hx hb dX12_town_109 hl (k := 0) rfl (nI_1 k1) (by decide) rfl (fun ls hl => ?_)
          refine lv_goto (tgt := 80) hx hb dX12_town_112 (by decide) ?_
          exact ih1 (k1 + 1) f_22 _ _ _ (by omega) (by omega)  hP hD hS (lv_sub hl [0, 1] rfl)
        · have hk67 : k1 < 67 := by
            rcases Nat.lt_or_ge k1 67 with q | q
            · exact q
            · exact absurd (nI_le q (by omega)) c_21
          refine lv_aload_n hx hb dX12_town_98 rfl (lv_at hl 1 rfl) ?_
          refine va_get (D := D) (ci := 11) (v := .ref (am 19)) (C := RX12) (T := TX12) (N := 54) hx hb hts hiX12 hown hK hP 3 rfl rfl 7 (by decide) (hts _ (List.mem_of_getElem? (i := 8) rfl)) (fun _ h9 => h9) rfl dX12_town_99 ?_
          refine lv_iload_n hx hb dX12_town_102 rfl (lv_at hl 0 rfl) ?_
          refine va_iald hx hb hK hP 2 1 rfl rfl (vp_in_nI (show k1 < 67 by omega) (by decide)) dX12_town_103 ?_
          refine lv_topi (fun y_23 ey_23 => ?_)
          refine lv_goto (tgt := 108) hx hb dX12_town_104 (by decide) ?_
          refine va_iast hx hb hK hP hD hS 0 0 rfl rfl (vp_in_nI (show k1 < 283 by omega) (by decide)) dX12_town_108 (fun H locs hP hD hS => ?_)
          rw [nI_clamp (show k1 < 2 ^ 31 by omega)] at hP hD
          have hP : va_P D vwCl [(am 1, .inl (tm 1, 283, .inl (upd g1_0 k1 y_23))), (am 3, .inl (tm 3, 36, .inr (.inl (fun _ => 0)))), (am 19, .inl (tm 18, 67, .inl f_1)), (am 18, .inr (11, [.int 0, .ref u_1, .int 0, .int 0, .int 0, .int 900, .ref (am 1), .ref (am 19), .ref u_8, .ref (am 3), .ref u_10, .int 0, .int 0, .int 0, .int u_14, .int 0, .int u_16, .long u_17, .int u_18, .int 0, .int 0, .ref u_21, .ref u_22, .int 0, .int u_24, .int u_25, .int u_26, .ref u_27, .int u_28, .ref u_29, .int u_30, .int u_31, .ref u_32, .int u_33, .ref u_34, .ref u_35, .int u_36, .int u_37, .ref u_38, .int u_39, .int u_40, .int u_41, .ref u_42, .int u_43, .ref u_44, .int u_45, .int u_46, .int u_47, .int u_48, .int u_49, .ref u_50, .ref u_51, .ref u_52, .ref u_53]))] H := hP
          have hD : va_D A [(am 1, .inl (tm 1, 283, .inl (upd g1_0 k1 y_23))), (am 3, .inl (tm 3, 36, .inr (.inl (fun _ => 0)))), (am 19, .inl (tm 18, 67, .inl f_1)), (am 18, .inr (11, [.int 0, .ref u_1, .int 0, .int 0, .int 0, .int 900, .ref (am 1), .ref (am 19), .ref u_8, .ref (am 3), .ref u_10, .int 0, .int 0, .int 0, .int u_14, .int 0, .int u_16, .long u_17, .int u_18, .int 0, .int 0, .ref u_21, .ref u_22, .int 0, .int u_24, .int u_25, .int u_26, .ref u_27, .int u_28, .ref u_29, .int u_30, .int u_31, .ref u_32, .int u_33, .ref u_34, .ref u_35, .int u_36, .int u_37, .ref u_38, .int u_39, .int u_40, .int u_41, .ref u_42, .int u_43, .ref u_44, .int u_45, .int u_46, .int u_47, .int u_48, .int u_49, .ref u_50, .ref u_51, .ref u_52, .ref u_53]))] := hD
          generalize (upd g1_0 k1 y_23) = f_24 at hP hD
          refine lv_iinc (v := nI (k1 + 1)) (lv' := [(1, .int (nI (k1 + 1))), (0, .ref (am 18))]) hx hb dX12_town_109 hl (k := 0) rfl (nI_1 k1) (by decide) rfl (fun ls hl => ?_)
          refine lv_goto (tgt := 80) hx hb dX12_town_112 (by decide) ?_
          exact ih1 (k1 + 1) f_24 _ _ _ (by omega) (by omega)  hP hD hS (lv_sub hl [0, 1] rfl)
  exact LP1 (283 + 1) 0 (upd (fun _ => 0) 4 2) _ _ _ (by omega) (by omega)  hP hD hS hl

set_option maxHeartbeats 8000000 in
set_option maxRecDepth 100000 in
theorem k_X12_book (l : Launch) (D : va_G) (ad : Nat → Nat) (am : Nat → Nat) (tm : Nat → ClassId) (p0 : Int32) (u_1 : Nat) (u_7 : Nat) (u_8 : Nat) (u_9 : Nat) (u_10 : Nat) (u_14 : Int32) (u_16 : Int32) (u_17 : Int64) (u_18 : Int32) (u_19 : Int32) (u_20 : Int32) (u_21 : Nat) (u_23 : Int32) (u_24 : Int32) (u_25 : Int32) (u_26 : Int32) (u_27 : Nat) (u_28 : Int32) (u_29 : Nat) (u_30 : Int32) (u_31 : Int32) (u_32 : Nat) (u_33 : Int32) (u_34 : Nat) (u_35 : Nat) (u_36 : Int32) (u_37 : Int32) (u_38 : Nat) (u_39 : Int32) (u_40 : Int32) (u_44 : Nat) (u_45 : Int32) (u_46 : Int32) (u_47 : Int32) (u_48 : Int32) (u_49 : Int32) (u_50 : Nat) (u_51 : Nat) (u_52 : Nat) (u_53 : Nat)  : z_Mi l yX12_book wsX12_book { frames := 2, cells := 0, slots := 0, locals := 43 } D ad [.ref (am 18), .int p0] [(am 1, .inl (tm 1, 283, .inl (upd (fun _ => 0) 4 2))), (am 5, .inl (tm 5, 35, .inl (fun _ => 0))), (am 12, .inl (tm 12, 4, .inl (fun _ => 0))), (am 18, .inr (11, [.int 0, .ref u_1, .int 0, .int 0, .int 0, .int 0, .ref (am 1), .ref u_7, .ref u_8, .ref u_9, .ref u_10, .int 0, .int 0, .int 0, .int u_14, .int 0, .int u_16, .long u_17, .int u_18, .int u_19, .int u_20, .ref u_21, .ref (am 5), .int u_23, .int u_24, .int u_25, .int u_26, .ref u_27, .int u_28, .ref u_29, .int u_30, .int u_31, .ref u_32, .int u_33, .ref u_34, .ref u_35, .int u_36, .int u_37, .ref u_38, .int u_39, .int u_40, .int 0, .ref (am 12), .int 0, .ref u_44, .int u_45, .int u_46, .int u_47, .int u_48, .int u_49, .ref u_50, .ref u_51, .ref u_52, .ref u_53]))] [(tm 1, .int), (tm 5, .int), (tm 12, .int)] 0 0 (fun r9 u9 => r9 = s_X12_book p0 ∧ u9 = ([], [])) := by
  refine z_ofI (cc := cX12_book) (maxL := 4) (rt := .int) (by decide) rfl (Nat.le_of_ble_eq_true rfl) ?_
  intro p e s m below meth c Q A ls hx hb hml hown hts hin hK hP hD hA hE hO hS hl hret
  have hown : s.vm.findClass RX12 = some m.cls := hown
  have hiX12 : ∀ w ∈ wsX120, w ∈ wsX12_book := fun _ h9 => List.mem_cons_of_mem _ (List.mem_append_right _ h9)
  have hl : lv_has ls 4 [(0, .ref (am 18)), (1, .int p0)] := hl
  refine lv_aload_n hx hb dX12_book_0 rfl (lv_at hl 0 rfl) ?_
  refine lv_iconst (v := 0) hx hb dX12_book_1 (by decide) ?_
  refine va_put (D := D) (ci := 11) (v := .int 0) (ty := tyX12 0) (C := RX12) (T := TX12) (N := 54) hx hb hts hiX12 tyX12 tyX12_ok nmX12 hown hK hP hD hS 3 rfl rfl 0 (by decide) (hts _ (List.mem_of_getElem? (i := 1) rfl)) (fun _ h9 => h9) rfl (tyX12_ok 0 (by decide)) rfl rfl (Nat.le_of_ble_eq_true rfl) dX12_book_2 (fun H locs hP hD hS => ?_)
  have hP : va_P D vwCl [(am 1, .inl (tm 1, 283, .inl (upd (fun _ => 0) 4 2))), (am 5, .inl (tm 5, 35, .inl (fun _ => 0))), (am 12, .inl (tm 12, 4, .inl (fun _ => 0))), (am 18, .inr (11, [.int 0, .ref u_1, .int 0, .int 0, .int 0, .int 0, .ref (am 1), .ref u_7, .ref u_8, .ref u_9, .ref u_10, .int 0, .int 0, .int 0, .int u_14, .int 0, .int u_16, .long u_17, .int u_18, .int u_19, .int u_20, .ref u_21, .ref (am 5), .int u_23, .int u_24, .int u_25, .int u_26, .ref u_27, .int u_28, .ref u_29, .int u_30, .int u_31, .ref u_32, .int u_33, .ref u_34, .ref u_35, .int u_36, .int u_37, .ref u_38, .int u_39, .int u_40, .int 0, .ref (am 12), .int 0, .ref u_44, .int u_45, .int u_46, .int u_47, .int u_48, .int u_49, .ref u_50, .ref u_51, .ref u_52, .ref u_53]))] H := hP
  have hD : va_D A [(am 1, .inl (tm 1, 283, .inl (upd (fun _ => 0) 4 2))), (am 5, .inl (tm 5, 35, .inl (fun _ => 0))), (am 12, .inl (tm 12, 4, .inl (fun _ => 0))), (am 18, .inr (11, [.int 0, .ref u_1, .int 0, .int 0, .int 0, .int 0, .ref (am 1), .ref u_7, .ref u_8, .ref u_9, .ref u_10, .int 0, .int 0, .int 0, .int u_14, .int 0, .int u_16, .long u_17, .int u_18, .int u_19, .int u_20, .ref u_21, .ref (am 5), .int u_23, .int u_24, .int u_25, .int u_26, .ref u_27, .int u_28, .ref u_29, .int u_30, .int u_31, .ref u_32, .int u_33, .ref u_34, .ref u_35, .int u_36, .int u_37, .ref u_38, .int u_39, .int u_40, .int 0, .ref (am 12), .int 0, .ref u_44, .int u_45, .int u_46, .int u_47, .int u_48, .int u_49, .ref u_50, .ref u_51, .ref u_52, .ref u_53]))] := hD
  refine lv_iload_n hx hb dX12_book_5 rfl (lv_at hl 1 rfl) ?_
  refine lv_iconst (v := 0) hx hb dX12_book_6 (by decide) ?_
  refine lv_iconst (v := 1) hx hb dX12_book_7 (by decide) ?_
  have hc9 := (k_X12_isIn l D ad p0 0 1 )
  refine z_calli (w0 := []) (wr := [(am 1, .inl (tm 1, 283, .inl (upd (fun _ => 0) 4 2))), (am 5, .inl (tm 5, 35, .inl (fun _ => 0))), (am 12, .inl (tm 12, 4, .inl (fun _ => 0))), (am 18, .inr (11, [.int 0, .ref u_1, .int 0, .int 0, .int 0, .int 0, .ref (am 1), .ref u_7, .ref u_8, .ref u_9, .ref u_10, .int 0, .int 0, .int 0, .int u_14, .int 0, .int u_16, .long u_17, .int u_18, .int u_19, .int u_20, .ref u_21, .ref (am 5), .int u_23, .int u_24, .int u_25, .int u_26, .ref u_27, .int u_28, .ref u_29, .int u_30, .int u_31, .ref u_32, .int u_33, .ref u_34, .ref u_35, .int u_36, .int u_37, .ref u_38, .int u_39, .int u_40, .int 0, .ref (am 12), .int 0, .ref u_44, .int u_45, .int u_46, .int u_47, .int u_48, .int u_49, .ref u_50, .ref u_51, .ref u_52, .ref u_53]))]) (va_runS (As := [.int p0, .int 0, .int 1]) (rest := []) ⟨hx, hb, hml, hown, hts⟩ (hc9 _) (va_cwS 3 hts gX12_book_X12_isIn rfl rfl rfl (by decide +kernel) ⟨Nat.le_of_ble_eq_true rfl, Nat.le_of_ble_eq_true rfl⟩) (z_preS hP hD hK hS hA hE hO [] [] rfl (by decide +kernel) rfl) rfl rfl hl.1 rfl (lv_room (Nat.le_of_ble_eq_true rfl)) dX12_book_8 ⟨Nat.le_of_ble_eq_true rfl, Nat.le_of_ble_eq_true rfl⟩) hP hD hK hS hA [] [0, 1, 2, 3] rfl rfl (by decide +kernel) (by decide +kernel) (fun r9 u9 H locs hw hP hD hK hS => ?_)
  obtain ⟨er9, rfl⟩ := hw
  have hP : va_P D vwCl [(am 1, .inl (tm 1, 283, .inl (upd (fun _ => 0) 4 2))), (am 5, .inl (tm 5, 35, .inl (fun _ => 0))), (am 12, .inl (tm 12, 4, .inl (fun _ => 0))), (am 18, .inr (11, [.int 0, .ref u_1, .int 0, .int 0, .int 0, .int 0, .ref (am 1), .ref u_7, .ref u_8, .ref u_9, .ref u_10, .int 0, .int 0, .int 0, .int u_14, .int 0, .int u_16, .long u_17, .int u_18, .int u_19, .int u_20, .ref u_21, .ref (am 5), .int u_23, .int u_24, .int u_25, .int u_26, .ref u_27, .int u_28, .ref u_29, .int u_30, .int u_31, .ref u_32, .int u_33, .ref u_34, .ref u_35, .int u_36, .int u_37, .ref u_38, .int u_39, .int u_40, .int 0, .ref (am 12), .int 0, .ref u_44, .int u_45, .int u_46, .int u_47, .int u_48, .int u_49, .ref u_50, .ref u_51, .ref u_52, .ref u_53]))] H := hP
  have hD : va_D A [(am 1, .inl (tm 1, 283, .inl (upd (fun _ => 0) 4 2))), (am 5, .inl (tm 5, 35, .inl (fun _ => 0))), (am 12, .inl (tm 12, 4, .inl (fun _ => 0))), (am 18, .inr (11, [.int 0, .ref u_1, .int 0, .int 0, .int 0, .int 0, .ref (am 1), .ref u_7, .ref u_8, .ref u_9, .ref u_10, .int 0, .int 0, .int 0, .int u_14, .int 0, .int u_16, .long u_17, .int u_18, .int u_19, .int u_20, .ref u_21, .ref (am 5), .int u_23, .int u_24, .int u_25, .int u_26, .ref u_27, .int u_28, .ref u_29, .int u_30, .int u_31, .ref u_32, .int u_33, .ref u_34, .ref u_35, .int u_36, .int u_37, .ref u_38, .int u_39, .int u_40, .int 0, .ref (am 12), .int 0, .ref u_44, .int u_45, .int u_46, .int u_47, .int u_48, .int u_49, .ref u_50, .ref u_51, .ref u_52, .ref u_53]))] := hD
  have hK : va_K D vwCl [(tm 1, .int), (tm 5, .int), (tm 12, .int)] s := hK
  refine W.cs (cells' := 0) (slots' := 0) rfl rfl ?_
  obtain rfl := er9
  refine W.eq (g2 := F0 m 11 ls (.int (s_X12_isIn p0 0 1) :: [])) rfl ?_
  refine lv_if_ne (tgt := 18) hx hb dX12_book_11 (by decide) (fun c_1 => ?_) (fun c_1 => ?_)
  · refine lv_aload_n hx hb dX12_book_18 rfl (lv_at hl 0 rfl) ?_
    refine lv_sipush (v := 400) hx hb dX12_book_19 (by decide) ?_
    have hc9 := (k_X12_taken l D ad am 400 0 u_1 (am 1) u_7 u_8 u_9 u_10 0 0 0 u_14 0 u_16 u_17 u_18 u_19 u_20 u_21 (am 5) u_23 u_24 u_25 u_26 u_27 u_28 u_29 u_30 u_31 u_32 u_33 u_34 u_35 u_36 u_37 u_38 u_39 u_40 0 (am 12) 0 u_44 u_45 u_46 u_47 u_48 u_49 u_50 u_51 u_52 u_53 )
    refine z_callv (w0 := [(am 18, .inr (11, [.int 0, .ref u_1, .int 0, .int 0, .int 0, .int 0, .ref (am 1), .ref u_7, .ref u_8, .ref u_9, .ref u_10, .int 0, .int 0, .int 0, .int u_14, .int 0, .int u_16, .long u_17, .int u_18, .int u_19, .int u_20, .ref u_21, .ref (am 5), .int u_23, .int u_24, .int u_25, .int u_26, .ref u_27, .int u_28, .ref u_29, .int u_30, .int u_31, .ref u_32, .int u_33, .ref u_34, .ref u_35, .int u_36, .int u_37, .ref u_38, .int u_39, .int u_40, .int 0, .ref (am 12), .int 0, .ref u_44, .int u_45, .int u_46, .int u_47, .int u_48, .int u_49, .ref u_50, .ref u_51, .ref u_52, .ref u_53]))]) (wr := [(am 1, .inl (tm 1, 283, .inl (upd (fun _ => 0) 4 2))), (am 5, .inl (tm 5, 35, .inl (fun _ => 0))), (am 12, .inl (tm 12, 4, .inl (fun _ => 0)))]) (va_runV (As := [.int 400]) (rest := []) ⟨hx, hb, hml, hown, hts⟩ (hc9 _) (cwV 1 hts gX12_book_X12_taken rfl rfl rfl (by decide +kernel) ⟨Nat.le_of_ble_eq_true rfl, Nat.le_of_ble_eq_true rfl⟩) (z_preV hP hD hK hS hA hE hO [3] [] rfl (by decide +kernel) rfl 3 11 rfl rfl rfl) rfl rfl hl.1 rfl (lv_room (Nat.le_of_ble_eq_true rfl)) dX12_book_22 ⟨Nat.le_of_ble_eq_true rfl, Nat.le_of_ble_eq_true rfl⟩) hP hD hK hS hA [3] [0, 1, 2] rfl rfl (by decide +kernel) (by decide +kernel) (fun u9 H locs hw hP hD hK hS => ?_)
    obtain ⟨rfl⟩ := hw
    have hP : va_P D vwCl [(am 1, .inl (tm 1, 283, .inl (upd (fun _ => 0) 4 2))), (am 5, .inl (tm 5, 35, .inl (fun _ => 0))), (am 12, .inl (tm 12, 4, .inl (fun _ => 0))), (am 18, .inr (11, [.int 0, .ref u_1, .int 0, .int 0, .int 0, .int 400, .ref (am 1), .ref u_7, .ref u_8, .ref u_9, .ref u_10, .int 0, .int 0, .int 0, .int u_14, .int 0, .int u_16, .long u_17, .int u_18, .int u_19, .int u_20, .ref u_21, .ref (am 5), .int u_23, .int u_24, .int u_25, .int u_26, .ref u_27, .int u_28, .ref u_29, .int u_30, .int u_31, .ref u_32, .int u_33, .ref u_34, .ref u_35, .int u_36, .int u_37, .ref u_38, .int u_39, .int u_40, .int 0, .ref (am 12), .int 0, .ref u_44, .int u_45, .int u_46, .int u_47, .int u_48, .int u_49, .ref u_50, .ref u_51, .ref u_52, .ref u_53]))] H := hP
    have hD : va_D A [(am 1, .inl (tm 1, 283, .inl (upd (fun _ => 0) 4 2))), (am 5, .inl (tm 5, 35, .inl (fun _ => 0))), (am 12, .inl (tm 12, 4, .inl (fun _ => 0))), (am 18, .inr (11, [.int 0, .ref u_1, .int 0, .int 0, .int 0, .int 400, .ref (am 1), .ref u_7, .ref u_8, .ref u_9, .ref u_10, .int 0, .int 0, .int 0, .int u_14, .int 0, .int u_16, .long u_17, .int u_18, .int u_19, .int u_20, .ref u_21, .ref (am 5), .int u_23, .int u_24, .int u_25, .int u_26, .ref u_27, .int u_28, .ref u_29, .int u_30, .int u_31, .ref u_32, .int u_33, .ref u_34, .ref u_35, .int u_36, .int u_37, .ref u_38, .int u_39, .int u_40, .int 0, .ref (am 12), .int 0, .ref u_44, .int u_45, .int u_46, .int u_47, .int u_48, .int u_49, .ref u_50, .ref u_51, .ref u_52, .ref u_53]))] := hD
    have hK : va_K D vwCl [(tm 1, .int), (tm 5, .int), (tm 12, .int)] s := hK
    refine W.cs (cells' := 0) (slots' := 0) rfl rfl ?_
    refine lv_aload_n hx hb dX12_book_25 rfl (lv_at hl 0 rfl) ?_
    refine lv_iconst (v := 0) hx hb dX12_book_26 (by decide) ?_
    refine va_put (D := D) (ci := 11) (v := .int 0) (ty := tyX12 15) (C := RX12) (T := TX12) (N := 54) hx hb hts hiX12 tyX12 tyX12_ok nmX12 hown hK hP hD hS 3 rfl rfl 15 (by decide) (hts _ (List.mem_of_getElem? (i := 2) rfl)) (fun _ h9 => h9) rfl (tyX12_ok 15 (by decide)) rfl rfl (Nat.le_of_ble_eq_true rfl) dX12_book_27 (fun H locs hP hD hS => ?_)
    have hP : va_P D vwCl [(am 1, .inl (tm 1, 283, .inl (upd (fun _ => 0) 4 2))), (am 5, .inl (tm 5, 35, .inl (fun _ => 0))), (am 12, .inl (tm 12, 4, .inl (fun _ => 0))), (am 18, .inr (11, [.int 0, .ref u_1, .int 0, .int 0, .int 0, .int 400, .ref (am 1), .ref u_7, .ref u_8, .ref u_9, .ref u_10, .int 0, .int 0, .int 0, .int u_14, .int 0, .int u_16, .long u_17, .int u_18, .int u_19, .int u_20, .ref u_21, .ref (am 5), .int u_23, .int u_24, .int u_25, .int u_26, .ref u_27, .int u_28, .ref u_29, .int u_30, .int u_31, .ref u_32, .int u_33, .ref u_34, .ref u_35, .int u_36, .int u_37, .ref u_38, .int u_39, .int u_40, .int 0, .ref (am 12), .int 0, .ref u_44, .int u_45, .int u_46, .int u_47, .int u_48, .int u_49, .ref u_50, .ref u_51, .ref u_52, .ref u_53]))] H := hP
    have hD : va_D A [(am 1, .inl (tm 1, 283, .inl (upd (fun _ => 0) 4 2))), (am 5, .inl (tm 5, 35, .inl (fun _ => 0))), (am 12, .inl (tm 12, 4, .inl (fun _ => 0))), (am 18, .inr (11, [.int 0, .ref u_1, .int 0, .int 0, .int 0, .int 400, .ref (am 1), .ref u_7, .ref u_8, .ref u_9, .ref u_10, .int 0, .int 0, .int 0, .int u_14, .int 0, .int u_16, .long u_17, .int u_18, .int u_19, .int u_20, .ref u_21, .ref (am 5), .int u_23, .int u_24, .int u_25, .int u_26, .ref u_27, .int u_28, .ref u_29, .int u_30, .int u_31, .ref u_32, .int u_33, .ref u_34, .ref u_35, .int u_36, .int u_37, .ref u_38, .int u_39, .int u_40, .int 0, .ref (am 12), .int 0, .ref u_44, .int u_45, .int u_46, .int u_47, .int u_48, .int u_49, .ref u_50, .ref u_51, .ref u_52, .ref u_53]))] := hD
    refine lv_aload_n hx hb dX12_book_30 rfl (lv_at hl 0 rfl) ?_
    refine lv_iconst (v := 0) hx hb dX12_book_31 (by decide) ?_
    refine va_put (D := D) (ci := 11) (v := .int 0) (ty := tyX12 41) (C := RX12) (T := TX12) (N := 54) hx hb hts hiX12 tyX12 tyX12_ok nmX12 hown hK hP hD hS 3 rfl rfl 41 (by decide) (hts _ (List.mem_of_getElem? (i := 3) rfl)) (fun _ h9 => h9) rfl (tyX12_ok 41 (by decide)) rfl rfl (Nat.le_of_ble_eq_true rfl) dX12_book_32 (fun H locs hP hD hS => ?_)
    have hP : va_P D vwCl [(am 1, .inl (tm 1, 283, .inl (upd (fun _ => 0) 4 2))), (am 5, .inl (tm 5, 35, .inl (fun _ => 0))), (am 12, .inl (tm 12, 4, .inl (fun _ => 0))), (am 18, .inr (11, [.int 0, .ref u_1, .int 0, .int 0, .int 0, .int 400, .ref (am 1), .ref u_7, .ref u_8, .ref u_9, .ref u_10, .int 0, .int 0, .int 0, .int u_14, .int 0, .int u_16, .long u_17, .int u_18, .int u_19, .int u_20, .ref u_21, .ref (am 5), .int u_23, .int u_24, .int u_25, .int u_26, .ref u_27, .int u_28, .ref u_29, .int u_30, .int u_31, .ref u_32, .int u_33, .ref u_34, .ref u_35, .int u_36, .int u_37, .ref u_38, .int u_39, .int u_40, .int 0, .ref (am 12), .int 0, .ref u_44, .int u_45, .int u_46, .int u_47, .int u_48, .int u_49, .ref u_50, .ref u_51, .ref u_52, .ref u_53]))] H := hP
    have hD : va_D A [(am 1, .inl (tm 1, 283, .inl (upd (fun _ => 0) 4 2))), (am 5, .inl (tm 5, 35, .inl (fun _ => 0))), (am 12, .inl (tm 12, 4, .inl (fun _ => 0))), (am 18, .inr (11, [.int 0, .ref u_1, .int 0, .int 0, .int 0, .int 400, .ref (am 1), .ref u_7, .ref u_8, .ref u_9, .ref u_10, .int 0, .int 0, .int 0, .int u_14, .int 0, .int u_16, .long u_17, .int u_18, .int u_19, .int u_20, .ref u_21, .ref (am 5), .int u_23, .int u_24, .int u_25, .int u_26, .ref u_27, .int u_28, .ref u_29, .int u_30, .int u_31, .ref u_32, .int u_33, .ref u_34, .ref u_35, .int u_36, .int u_37, .ref u_38, .int u_39, .int u_40, .int 0, .ref (am 12), .int 0, .ref u_44, .int u_45, .int u_46, .int u_47, .int u_48, .int u_49, .ref u_50, .ref u_51, .ref u_52, .ref u_53]))] := hD
    refine lv_aload_n hx hb dX12_book_35 rfl (lv_at hl 0 rfl) ?_
    have hc9 := (k_X12_step400 l D ad am 0 u_1 0 (am 1) u_7 u_8 u_9 u_10 u_14 0 u_16 u_17 u_18 u_19 u_20 u_21 (am 5) u_23 u_24 u_25 u_26 u_27 u_28 u_29 u_30 u_31 u_32 u_33 u_34 u_35 u_36 u_37 u_38 u_39 u_40 0 (am 12) 0 u_44 u_45 u_46 u_47 u_48 u_49 u_50 u_51 u_52 u_53 )
    refine z_callv (w0 := [(am 18, .inr (11, [.int 0, .ref u_1, .int 0, .int 0, .int 0, .int 400, .ref (am 1), .ref u_7, .ref u_8, .ref u_9, .ref u_10, .int 0, .int 0, .int 0, .int u_14, .int 0, .int u_16, .long u_17, .int u_18, .int u_19, .int u_20, .ref u_21, .ref (am 5), .int u_23, .int u_24, .int u_25, .int u_26, .ref u_27, .int u_28, .ref u_29, .int u_30, .int u_31, .ref u_32, .int u_33, .ref u_34, .ref u_35, .int u_36, .int u_37, .ref u_38, .int u_39, .int u_40, .int 0, .ref (am 12), .int 0, .ref u_44, .int u_45, .int u_46, .int u_47, .int u_48, .int u_49, .ref u_50, .ref u_51, .ref u_52, .ref u_53]))]) (wr := [(am 1, .inl (tm 1, 283, .inl (upd (fun _ => 0) 4 2))), (am 5, .inl (tm 5, 35, .inl (fun _ => 0))), (am 12, .inl (tm 12, 4, .inl (fun _ => 0)))]) (va_runV (As := []) (rest := []) ⟨hx, hb, hml, hown, hts⟩ (hc9 _) (cwV 0 hts gX12_book_X12_step rfl rfl rfl (by decide +kernel) ⟨Nat.le_of_ble_eq_true rfl, Nat.le_of_ble_eq_true rfl⟩) (z_preV hP hD hK hS hA hE hO [3] [] rfl (by decide +kernel) rfl 3 11 rfl rfl rfl) rfl rfl hl.1 rfl (lv_room (Nat.le_of_ble_eq_true rfl)) dX12_book_36 ⟨Nat.le_of_ble_eq_true rfl, Nat.le_of_ble_eq_true rfl⟩) hP hD hK hS hA [3] [0, 1, 2] rfl rfl (by decide +kernel) (by decide +kernel) (fun u9 H locs hw hP hD hK hS => ?_)
    obtain ⟨rfl⟩ := hw
    have hP : va_P D vwCl [(am 1, .inl (tm 1, 283, .inl (upd (fun _ => 0) 4 2))), (am 5, .inl (tm 5, 35, .inl (fun _ => 0))), (am 12, .inl (tm 12, 4, .inl (fun _ => 0))), (am 18, .inr (11, [.int 0, .ref u_1, .int 0, .int 0, .int 0, .int 400, .ref (am 1), .ref u_7, .ref u_8, .ref u_9, .ref u_10, .int 0, .int 0, .int 0, .int u_14, .int 0, .int u_16, .long u_17, .int u_18, .int u_19, .int u_20, .ref u_21, .ref (am 5), .int u_23, .int u_24, .int u_25, .int u_26, .ref u_27, .int u_28, .ref u_29, .int u_30, .int u_31, .ref u_32, .int u_33, .ref u_34, .ref u_35, .int u_36, .int u_37, .ref u_38, .int u_39, .int u_40, .int 0, .ref (am 12), .int 0, .ref u_44, .int u_45, .int u_46, .int u_47, .int u_48, .int u_49, .ref u_50, .ref u_51, .ref u_52, .ref u_53]))] H := hP
    have hD : va_D A [(am 1, .inl (tm 1, 283, .inl (upd (fun _ => 0) 4 2))), (am 5, .inl (tm 5, 35, .inl (fun _ => 0))), (am 12, .inl (tm 12, 4, .inl (fun _ => 0))), (am 18, .inr (11, [.int 0, .ref u_1, .int 0, .int 0, .int 0, .int 400, .ref (am 1), .ref u_7, .ref u_8, .ref u_9, .ref u_10, .int 0, .int 0, .int 0, .int u_14, .int 0, .int u_16, .long u_17, .int u_18, .int u_19, .int u_20, .ref u_21, .ref (am 5), .int u_23, .int u_24, .int u_25, .int u_26, .ref u_27, .int u_28, .ref u_29, .int u_30, .int u_31, .ref u_32, .int u_33, .ref u_34, .ref u_35, .int u_36, .int u_37, .ref u_38, .int u_39, .int u_40, .int 0, .ref (am 12), .int 0, .ref u_44, .int u_45, .int u_46, .int u_47, .int u_48, .int u_49, .ref u_50, .ref u_51, .ref u_52, .ref u_53]))] := hD
    have hK : va_K D vwCl [(tm 1, .int), (tm 5, .int), (tm 12, .int)] s := hK
    refine W.cs (cells' := 0) (slots' := 0) rfl rfl ?_
    refine lv_aload_n hx hb dX12_book_39 rfl (lv_at hl 0 rfl) ?_
    refine va_get (D := D) (ci := 11) (v := .int 0) (C := RX12) (T := TX12) (N := 54) hx hb hts hiX12 hown hK hP 3 rfl rfl 11 (by decide) (hts _ (List.mem_of_getElem? (i := 4) rfl)) (fun _ h9 => h9) rfl dX12_book_40 ?_
    refine lv_if_eq (tgt := 83) hx hb dX12_book_43 (by decide) (fun _ => ?_) (fun h9 => absurd (by decide) h9)
    refine lv_aload_n hx hb dX12_book_83 rfl (lv_at hl 0 rfl) ?_
    have hc9 := (k_X12_tries l D ad am tm 0 u_1 0 0 0 400 u_7 u_8 u_9 u_10 0 0 0 u_14 0 u_16 u_17 u_18 u_19 u_20 u_21 u_23 u_24 u_25 u_26 u_27 u_28 u_29 u_30 u_31 u_32 u_33 u_34 u_35 u_36 u_37 u_38 u_39 u_40 0 (am 12) 0 u_44 u_45 u_46 u_47 u_48 u_49 u_50 u_51 u_52 u_53 )
    refine z_callv (w0 := [(am 1, .inl (tm 1, 283, .inl (upd (fun _ => 0) 4 2))), (am 5, .inl (tm 5, 35, .inl (fun _ => 0))), (am 18, .inr (11, [.int 0, .ref u_1, .int 0, .int 0, .int 0, .int 400, .ref (am 1), .ref u_7, .ref u_8, .ref u_9, .ref u_10, .int 0, .int 0, .int 0, .int u_14, .int 0, .int u_16, .long u_17, .int u_18, .int u_19, .int u_20, .ref u_21, .ref (am 5), .int u_23, .int u_24, .int u_25, .int u_26, .ref u_27, .int u_28, .ref u_29, .int u_30, .int u_31, .ref u_32, .int u_33, .ref u_34, .ref u_35, .int u_36, .int u_37, .ref u_38, .int u_39, .int u_40, .int 0, .ref (am 12), .int 0, .ref u_44, .int u_45, .int u_46, .int u_47, .int u_48, .int u_49, .ref u_50, .ref u_51, .ref u_52, .ref u_53]))]) (wr := [(am 12, .inl (tm 12, 4, .inl (fun _ => 0)))]) (va_runV (As := []) (rest := []) ⟨hx, hb, hml, hown, hts⟩ (hc9 _) (cwV 0 hts gX12_book_X12_tries rfl rfl rfl (by decide +kernel) ⟨Nat.le_of_ble_eq_true rfl, Nat.le_of_ble_eq_true rfl⟩) (z_preV hP hD hK hS hA hE hO [0, 1, 3] [0, 1] rfl (by decide +kernel) rfl 3 11 rfl rfl rfl) rfl rfl hl.1 rfl (lv_room (Nat.le_of_ble_eq_true rfl)) dX12_book_84 ⟨Nat.le_of_ble_eq_true rfl, Nat.le_of_ble_eq_true rfl⟩) hP hD hK hS hA [0, 1, 3] [2] rfl rfl (by decide +kernel) (by decide +kernel) (fun u9 H locs hw hP hD hK hS => ?_)
    obtain ⟨g1_2, rfl⟩ := hw
    have hP : va_P D vwCl [(am 12, .inl (tm 12, 4, .inl (fun _ => 0))), (am 1, .inl (tm 1, 283, .inl (upd (fun _ => 0) 4 2))), (am 5, .inl (tm 5, 35, .inl g1_2)), (am 18, .inr (11, [.int 0, .ref u_1, .int 0, .int 0, .int 0, .int 400, .ref (am 1), .ref u_7, .ref u_8, .ref u_9, .ref u_10, .int 0, .int 0, .int 0, .int u_14, .int 0, .int u_16, .long u_17, .int u_18, .int u_19, .int u_20, .ref u_21, .ref (am 5), .int u_23, .int u_24, .int u_25, .int u_26, .ref u_27, .int u_28, .ref u_29, .int u_30, .int u_31, .ref u_32, .int u_33, .ref u_34, .ref u_35, .int u_36, .int u_37, .ref u_38, .int u_39, .int u_40, .int 0, .ref (am 12), .int 0, .ref u_44, .int u_45, .int u_46, .int u_47, .int u_48, .int u_49, .ref u_50, .ref u_51, .ref u_52, .ref u_53]))] H := hP
    have hD : va_D A [(am 12, .inl (tm 12, 4, .inl (fun _ => 0))), (am 1, .inl (tm 1, 283, .inl (upd (fun _ => 0) 4 2))), (am 5, .inl (tm 5, 35, .inl g1_2)), (am 18, .inr (11, [.int 0, .ref u_1, .int 0, .int 0, .int 0, .int 400, .ref (am 1), .ref u_7, .ref u_8, .ref u_9, .ref u_10, .int 0, .int 0, .int 0, .int u_14, .int 0, .int u_16, .long u_17, .int u_18, .int u_19, .int u_20, .ref u_21, .ref (am 5), .int u_23, .int u_24, .int u_25, .int u_26, .ref u_27, .int u_28, .ref u_29, .int u_30, .int u_31, .ref u_32, .int u_33, .ref u_34, .ref u_35, .int u_36, .int u_37, .ref u_38, .int u_39, .int u_40, .int 0, .ref (am 12), .int 0, .ref u_44, .int u_45, .int u_46, .int u_47, .int u_48, .int u_49, .ref u_50, .ref u_51, .ref u_52, .ref u_53]))] := hD
    have hK : va_K D vwCl [(tm 1, .int), (tm 5, .int), (tm 12, .int)] s := hK
    refine W.cs (cells' := 0) (slots' := 0) rfl rfl ?_
    refine lv_iconst (v := 0) hx hb dX12_book_87 (by decide) ?_
    refine lv_istore_n (lv' := [(2, .int 0), (0, .ref (am 18)), (1, .int p0)]) hx hb dX12_book_88 rfl hl (by decide) rfl (fun ls hl => ?_)
    refine lv_iload_n hx hb dX12_book_89 rfl (lv_at hl 0 rfl) ?_
    refine lv_iconst (v := 4) hx hb dX12_book_90 (by decide) ?_
    refine lv_icmp_ge (tgt := 107) hx hb dX12_book_91 (by decide) (fun h9 => absurd h9 (by decide)) (fun _ => ?_)
    refine lv_aload_n hx hb dX12_book_94 rfl (lv_at hl 1 rfl) ?_
    refine va_get (D := D) (ci := 11) (v := .ref (am 12)) (C := RX12) (T := TX12) (N := 54) hx hb hts hiX12 hown hK hP 3 rfl rfl 42 (by decide) (hts _ (List.mem_of_getElem? (i := 6) rfl)) (fun _ h9 => h9) rfl dX12_book_95 ?_
    refine lv_iload_n hx hb dX12_book_98 rfl (lv_at hl 0 rfl) ?_
    refine lv_iconst (v := 0) hx hb dX12_book_99 (by decide) ?_
    refine va_iast hx hb hK hP hD hS 0 2 rfl rfl (show ¬ (_ ∨ _) by decide) dX12_book_100 (fun H locs hP hD hS => ?_)
    have hP : va_P D vwCl [(am 12, .inl (tm 12, 4, .inl (upd (fun _ => 0) 0 0))), (am 1, .inl (tm 1, 283, .inl (upd (fun _ => 0) 4 2))), (am 5, .inl (tm 5, 35, .inl g1_2)), (am 18, .inr (11, [.int 0, .ref u_1, .int 0, .int 0, .int 0, .int 400, .ref (am 1), .ref u_7, .ref u_8, .ref u_9, .ref u_10, .int 0, .int 0, .int 0, .int u_14, .int 0, .int u_16, .long u_17, .int u_18, .int u_19, .int u_20, .ref u_21, .ref (am 5), .int u_23, .int u_24, .int u_25, .int u_26, .ref u_27, .int u_28, .ref u_29, .int u_30, .int u_31, .ref u_32, .int u_33, .ref u_34, .ref u_35, .int u_36, .int u_37, .ref u_38, .int u_39, .int u_40, .int 0, .ref (am 12), .int 0, .ref u_44, .int u_45, .int u_46, .int u_47, .int u_48, .int u_49, .ref u_50, .ref u_51, .ref u_52, .ref u_53]))] H := hP
    have hD : va_D A [(am 12, .inl (tm 12, 4, .inl (upd (fun _ => 0) 0 0))), (am 1, .inl (tm 1, 283, .inl (upd (fun _ => 0) 4 2))), (am 5, .inl (tm 5, 35, .inl g1_2)), (am 18, .inr (11, [.int 0, .ref u_1, .int 0, .int 0, .int 0, .int 400, .ref (am 1), .ref u_7, .ref u_8, .ref u_9, .ref u_10, .int 0, .int 0, .int 0, .int u_14, .int 0, .int u_16, .long u_17, .int u_18, .int u_19, .int u_20, .ref u_21, .ref (am 5), .int u_23, .int u_24, .int u_25, .int u_26, .ref u_27, .int u_28, .ref u_29, .int u_30, .int u_31, .ref u_32, .int u_33, .ref u_34, .ref u_35, .int u_36, .int u_37, .ref u_38, .int u_39, .int u_40, .int 0, .ref (am 12), .int 0, .ref u_44, .int u_45, .int u_46, .int u_47, .int u_48, .int u_49, .ref u_50, .ref u_51, .ref u_52, .ref u_53]))] := hD
    refine lv_iinc (v := 1) (lv' := [(2, .int 1), (0, .ref (am 18)), (1, .int p0)]) hx hb dX12_book_101 hl (k := 0) rfl (by decide) (by decide) rfl (fun ls hl => ?_)
    refine lv_goto (tgt := 89) hx hb dX12_book_104 (by decide) ?_
    refine lv_iload_n hx hb dX12_book_89 rfl (lv_at hl 0 rfl) ?_
    refine lv_iconst (v := 4) hx hb dX12_book_90 (by decide) ?_
    refine lv_icmp_ge (tgt := 107) hx hb dX12_book_91 (by decide) (fun h9 => absurd h9 (by decide)) (fun _ => ?_)
    refine lv_aload_n hx hb dX12_book_94 rfl (lv_at hl 1 rfl) ?_
    refine va_get (D := D) (ci := 11) (v := .ref (am 12)) (C := RX12) (T := TX12) (N := 54) hx hb hts hiX12 hown hK hP 3 rfl rfl 42 (by decide) (hts _ (List.mem_of_getElem? (i := 6) rfl)) (fun _ h9 => h9) rfl dX12_book_95 ?_
    refine lv_iload_n hx hb dX12_book_98 rfl (lv_at hl 0 rfl) ?_
    refine lv_iconst (v := 0) hx hb dX12_book_99 (by decide) ?_
    refine va_iast hx hb hK hP hD hS 0 2 rfl rfl (show ¬ (_ ∨ _) by decide) dX12_book_100 (fun H locs hP hD hS => ?_)
    have hP : va_P D vwCl [(am 12, .inl (tm 12, 4, .inl (upd (upd (fun _ => 0) 0 0) 1 0))), (am 1, .inl (tm 1, 283, .inl (upd (fun _ => 0) 4 2))), (am 5, .inl (tm 5, 35, .inl g1_2)), (am 18, .inr (11, [.int 0, .ref u_1, .int 0, .int 0, .int 0, .int 400, .ref (am 1), .ref u_7, .ref u_8, .ref u_9, .ref u_10, .int 0, .int 0, .int 0, .int u_14, .int 0, .int u_16, .long u_17, .int u_18, .int u_19, .int u_20, .ref u_21, .ref (am 5), .int u_23, .int u_24, .int u_25, .int u_26, .ref u_27, .int u_28, .ref u_29, .int u_30, .int u_31, .ref u_32, .int u_33, .ref u_34, .ref u_35, .int u_36, .int u_37, .ref u_38, .int u_39, .int u_40, .int 0, .ref (am 12), .int 0, .ref u_44, .int u_45, .int u_46, .int u_47, .int u_48, .int u_49, .ref u_50, .ref u_51, .ref u_52, .ref u_53]))] H := hP
    have hD : va_D A [(am 12, .inl (tm 12, 4, .inl (upd (upd (fun _ => 0) 0 0) 1 0))), (am 1, .inl (tm 1, 283, .inl (upd (fun _ => 0) 4 2))), (am 5, .inl (tm 5, 35, .inl g1_2)), (am 18, .inr (11, [.int 0, .ref u_1, .int 0, .int 0, .int 0, .int 400, .ref (am 1), .ref u_7, .ref u_8, .ref u_9, .ref u_10, .int 0, .int 0, .int 0, .int u_14, .int 0, .int u_16, .long u_17, .int u_18, .int u_19, .int u_20, .ref u_21, .ref (am 5), .int u_23, .int u_24, .int u_25, .int u_26, .ref u_27, .int u_28, .ref u_29, .int u_30, .int u_31, .ref u_32, .int u_33, .ref u_34, .ref u_35, .int u_36, .int u_37, .ref u_38, .int u_39, .int u_40, .int 0, .ref (am 12), .int 0, .ref u_44, .int u_45, .int u_46, .int u_47, .int u_48, .int u_49, .ref u_50, .ref u_51, .ref u_52, .ref u_53]))] := hD
    refine lv_iinc (v := 2) (lv' := [(2, .int 2), (0, .ref (am 18)), (1, .int p0)]) hx hb dX12_book_101 hl (k := 0) rfl (by decide) (by decide) rfl (fun ls hl => ?_)
    refine lv_goto (tgt := 89) hx hb dX12_book_104 (by decide) ?_
    refine lv_iload_n hx hb dX12_book_89 rfl (lv_at hl 0 rfl) ?_
    refine lv_iconst (v := 4) hx hb dX12_book_90 (by decide) ?_
    refine lv_icmp_ge (tgt := 107) hx hb dX12_book_91 (by decide) (fun h9 => absurd h9 (by decide)) (fun _ => ?_)
    refine lv_aload_n hx hb dX12_book_94 rfl (lv_at hl 1 rfl) ?_
    refine va_get (D := D) (ci := 11) (v := .ref (am 12)) (C := RX12) (T := TX12) (N := 54) hx hb hts hiX12 hown hK hP 3 rfl rfl 42 (by decide) (hts _ (List.mem_of_getElem? (i := 6) rfl)) (fun _ h9 => h9) rfl dX12_book_95 ?_
    refine lv_iload_n hx hb dX12_book_98 rfl (lv_at hl 0 rfl) ?_
    refine lv_iconst (v := 0) hx hb dX12_book_99 (by decide) ?_
    refine va_iast hx hb hK hP hD hS 0 2 rfl rfl (show ¬ (_ ∨ _) by decide) dX12_book_100 (fun H locs hP hD hS => ?_)
    have hP : va_P D vwCl [(am 12, .inl (tm 12, 4, .inl (upd (upd (upd (fun _ => 0) 0 0) 1 0) 2 0))), (am 1, .inl (tm 1, 283, .inl (upd (fun _ => 0) 4 2))), (am 5, .inl (tm 5, 35, .inl g1_2)), (am 18, .inr (11, [.int 0, .ref u_1, .int 0, .int 0, .int 0, .int 400, .ref (am 1), .ref u_7, .ref u_8, .ref u_9, .ref u_10, .int 0, .int 0, .int 0, .int u_14, .int 0, .int u_16, .long u_17, .int u_18, .int u_19, .int u_20, .ref u_21, .ref (am 5), .int u_23, .int u_24, .int u_25, .int u_26, .ref u_27, .int u_28, .ref u_29, .int u_30, .int u_31, .ref u_32, .int u_33, .ref u_34, .ref u_35, .int u_36, .int u_37, .ref u_38, .int u_39, .int u_40, .int 0, .ref (am 12), .int 0, .ref u_44, .int u_45, .int u_46, .int u_47, .int u_48, .int u_49, .ref u_50, .ref u_51, .ref u_52, .ref u_53]))] H := hP
    have hD : va_D A [(am 12, .inl (tm 12, 4, .inl (upd (upd (upd (fun _ => 0) 0 0) 1 0) 2 0))), (am 1, .inl (tm 1, 283, .inl (upd (fun _ => 0) 4 2))), (am 5, .inl (tm 5, 35, .inl g1_2)), (am 18, .inr (11, [.int 0, .ref u_1, .int 0, .int 0, .int 0, .int 400, .ref (am 1), .ref u_7, .ref u_8, .ref u_9, .ref u_10, .int 0, .int 0, .int 0, .int u_14, .int 0, .int u_16, .long u_17, .int u_18, .int u_19, .int u_20, .ref u_21, .ref (am 5), .int u_23, .int u_24, .int u_25, .int u_26, .ref u_27, .int u_28, .ref u_29, .int u_30, .int u_31, .ref u_32, .int u_33, .ref u_34, .ref u_35, .int u_36, .int u_37, .ref u_38, .int u_39, .int u_40, .int 0, .ref (am 12), .int 0, .ref u_44, .int u_45, .int u_46, .int u_47, .int u_48, .int u_49, .ref u_50, .ref u_51, .ref u_52, .ref u_53]))] := hD
    refine lv_iinc (v := 3) (lv' := [(2, .int 3), (0, .ref (am 18)), (1, .int p0)]) hx hb dX12_book_101 hl (k := 0) rfl (by decide) (by decide) rfl (fun ls hl => ?_)
    refine lv_goto (tgt := 89) hx hb dX12_book_104 (by decide) ?_
    refine lv_iload_n hx hb dX12_book_89 rfl (lv_at hl 0 rfl) ?_
    refine lv_iconst (v := 4) hx hb dX12_book_90 (by decide) ?_
    refine lv_icmp_ge (tgt := 107) hx hb dX12_book_91 (by decide) (fun h9 => absurd h9 (by decide)) (fun _ => ?_)
    refine lv_aload_n hx hb dX12_book_94 rfl (lv_at hl 1 rfl) ?_
    refine va_get (D := D) (ci := 11) (v := .ref (am 12)) (C := RX12) (T := TX12) (N := 54) hx hb hts hiX12 hown hK hP 3 rfl rfl 42 (by decide) (hts _ (List.mem_of_getElem? (i := 6) rfl)) (fun _ h9 => h9) rfl dX12_book_95 ?_
    refine lv_iload_n hx hb dX12_book_98 rfl (lv_at hl 0 rfl) ?_
    refine lv_iconst (v := 0) hx hb dX12_book_99 (by decide) ?_
    refine va_iast hx hb hK hP hD hS 0 2 rfl rfl (show ¬ (_ ∨ _) by decide) dX12_book_100 (fun H locs hP hD hS => ?_)
    have hP : va_P D vwCl [(am 12, .inl (tm 12, 4, .inl (upd (upd (upd (upd (fun _ => 0) 0 0) 1 0) 2 0) 3 0))), (am 1, .inl (tm 1, 283, .inl (upd (fun _ => 0) 4 2))), (am 5, .inl (tm 5, 35, .inl g1_2)), (am 18, .inr (11, [.int 0, .ref u_1, .int 0, .int 0, .int 0, .int 400, .ref (am 1), .ref u_7, .ref u_8, .ref u_9, .ref u_10, .int 0, .int 0, .int 0, .int u_14, .int 0, .int u_16, .long u_17, .int u_18, .int u_19, .int u_20, .ref u_21, .ref (am 5), .int u_23, .int u_24, .int u_25, .int u_26, .ref u_27, .int u_28, .ref u_29, .int u_30, .int u_31, .ref u_32, .int u_33, .ref u_34, .ref u_35, .int u_36, .int u_37, .ref u_38, .int u_39, .int u_40, .int 0, .ref (am 12), .int 0, .ref u_44, .int u_45, .int u_46, .int u_47, .int u_48, .int u_49, .ref u_50, .ref u_51, .ref u_52, .ref u_53]))] H := hP
    have hD : va_D A [(am 12, .inl (tm 12, 4, .inl (upd (upd (upd (upd (fun _ => 0) 0 0) 1 0) 2 0) 3 0))), (am 1, .inl (tm 1, 283, .inl (upd (fun _ => 0) 4 2))), (am 5, .inl (tm 5, 35, .inl g1_2)), (am 18, .inr (11, [.int 0, .ref u_1, .int 0, .int 0, .int 0, .int 400, .ref (am 1), .ref u_7, .ref u_8, .ref u_9, .ref u_10, .int 0, .int 0, .int 0, .int u_14, .int 0, .int u_16, .long u_17, .int u_18, .int u_19, .int u_20, .ref u_21, .ref (am 5), .int u_23, .int u_24, .int u_25, .int u_26, .ref u_27, .int u_28, .ref u_29, .int u_30, .int u_31, .ref u_32, .int u_33, .ref u_34, .ref u_35, .int u_36, .int u_37, .ref u_38, .int u_39, .int u_40, .int 0, .ref (am 12), .int 0, .ref u_44, .int u_45, .int u_46, .int u_47, .int u_48, .int u_49, .ref u_50, .ref u_51, .ref u_52, .ref u_53]))] := hD
    refine lv_iinc (v := 4) (lv' := [(2, .int 4), (0, .ref (am 18)), (1, .int p0)]) hx hb dX12_book_101 hl (k := 0) rfl (by decide) (by decide) rfl (fun ls hl => ?_)
    refine lv_goto (tgt := 89) hx hb dX12_book_104 (by decide) ?_
    refine lv_iload_n hx hb dX12_book_89 rfl (lv_at hl 0 rfl) ?_
    refine lv_iconst (v := 4) hx hb dX12_book_90 (by decide) ?_
    refine lv_icmp_ge (tgt := 107) hx hb dX12_book_91 (by decide) (fun _ => ?_) (fun h9 => absurd (by decide) h9)
    refine lv_iconst (v := (-1)) hx hb dX12_book_107 (by decide) ?_
    refine lv_istore_n (lv' := [(2, .int (-1)), (0, .ref (am 18)), (1, .int p0)]) hx hb dX12_book_108 rfl hl (by decide) rfl (fun ls hl => ?_)
    refine lv_iconst (v := 0) hx hb dX12_book_109 (by decide) ?_
    refine lv_istore_n (lv' := [(3, .int 0), (2, .int (-1)), (0, .ref (am 18)), (1, .int p0)]) hx hb dX12_book_110 rfl hl (by decide) rfl (fun ls hl => ?_)
    refine lv_iload_n hx hb dX12_book_111 rfl (lv_at hl 0 rfl) ?_
    refine lv_aload_n hx hb dX12_book_112 rfl (lv_at hl 2 rfl) ?_
    refine va_get (D := D) (ci := 11) (v := .int 0) (C := RX12) (T := TX12) (N := 54) hx hb hts hiX12 hown hK hP 3 rfl rfl 41 (by decide) (hts _ (List.mem_of_getElem? (i := 3) rfl)) (fun _ h9 => h9) rfl dX12_book_113 ?_
    refine lv_icmp_ge (tgt := 191) hx hb dX12_book_116 (by decide) (fun _ => ?_) (fun h9 => absurd (by decide) h9)
    refine lv_aload_n hx hb dX12_book_191 rfl (lv_at hl 2 rfl) ?_
    refine va_get (D := D) (ci := 11) (v := .ref (am 12)) (C := RX12) (T := TX12) (N := 54) hx hb hts hiX12 hown hK hP 3 rfl rfl 42 (by decide) (hts _ (List.mem_of_getElem? (i := 6) rfl)) (fun _ h9 => h9) rfl dX12_book_192 ?_
    refine lv_iconst (v := 2) hx hb dX12_book_195 (by decide) ?_
    refine lv_aload_n hx hb dX12_book_196 rfl (lv_at hl 2 rfl) ?_
    refine va_get (D := D) (ci := 11) (v := .ref (am 1)) (C := RX12) (T := TX12) (N := 54) hx hb hts hiX12 hown hK hP 3 rfl rfl 6 (by decide) (hts _ (List.mem_of_getElem? (i := 8) rfl)) (fun _ h9 => h9) rfl dX12_book_197 ?_
    refine lv_bipush (v := 67) hx hb dX12_book_200 (by decide) ?_
    refine va_iald hx hb hK hP 1 0 rfl rfl (show ¬ (_ ∨ _) by decide) dX12_book_202 ?_
    refine W.eq (g2 := F0 m 203 ls (.int 0 :: [.int 2, .ref (am 12)])) rfl ?_
    refine va_iast hx hb hK hP hD hS 0 2 rfl rfl (show ¬ (_ ∨ _) by decide) dX12_book_203 (fun H locs hP hD hS => ?_)
    have hP : va_P D vwCl [(am 12, .inl (tm 12, 4, .inl (upd (upd (upd (upd (upd (fun _ => 0) 0 0) 1 0) 2 0) 3 0) 2 0))), (am 1, .inl (tm 1, 283, .inl (upd (fun _ => 0) 4 2))), (am 5, .inl (tm 5, 35, .inl g1_2)), (am 18, .inr (11, [.int 0, .ref u_1, .int 0, .int 0, .int 0, .int 400, .ref (am 1), .ref u_7, .ref u_8, .ref u_9, .ref u_10, .int 0, .int 0, .int 0, .int u_14, .int 0, .int u_16, .long u_17, .int u_18, .int u_19, .int u_20, .ref u_21, .ref (am 5), .int u_23, .int u_24, .int u_25, .int u_26, .ref u_27, .int u_28, .ref u_29, .int u_30, .int u_31, .ref u_32, .int u_33, .ref u_34, .ref u_35, .int u_36, .int u_37, .ref u_38, .int u_39, .int u_40, .int 0, .ref (am 12), .int 0, .ref u_44, .int u_45, .int u_46, .int u_47, .int u_48, .int u_49, .ref u_50, .ref u_51, .ref u_52, .ref u_53]))] H := hP
    have hD : va_D A [(am 12, .inl (tm 12, 4, .inl (upd (upd (upd (upd (upd (fun _ => 0) 0 0) 1 0) 2 0) 3 0) 2 0))), (am 1, .inl (tm 1, 283, .inl (upd (fun _ => 0) 4 2))), (am 5, .inl (tm 5, 35, .inl g1_2)), (am 18, .inr (11, [.int 0, .ref u_1, .int 0, .int 0, .int 0, .int 400, .ref (am 1), .ref u_7, .ref u_8, .ref u_9, .ref u_10, .int 0, .int 0, .int 0, .int u_14, .int 0, .int u_16, .long u_17, .int u_18, .int u_19, .int u_20, .ref u_21, .ref (am 5), .int u_23, .int u_24, .int u_25, .int u_26, .ref u_27, .int u_28, .ref u_29, .int u_30, .int u_31, .ref u_32, .int u_33, .ref u_34, .ref u_35, .int u_36, .int u_37, .ref u_38, .int u_39, .int u_40, .int 0, .ref (am 12), .int 0, .ref u_44, .int u_45, .int u_46, .int u_47, .int u_48, .int u_49, .ref u_50, .ref u_51, .ref u_52, .ref u_53]))] := hD
    refine lv_aload_n hx hb dX12_book_204 rfl (lv_at hl 2 rfl) ?_
    refine va_get (D := D) (ci := 11) (v := .ref (am 12)) (C := RX12) (T := TX12) (N := 54) hx hb hts hiX12 hown hK hP 3 rfl rfl 42 (by decide) (hts _ (List.mem_of_getElem? (i := 6) rfl)) (fun _ h9 => h9) rfl dX12_book_205 ?_
    refine lv_iconst (v := 3) hx hb dX12_book_208 (by decide) ?_
    refine lv_aload_n hx hb dX12_book_209 rfl (lv_at hl 2 rfl) ?_
    have hc9 := (k_X12_openSet l D ad am tm 0 u_1 0 0 0 400 u_7 u_8 u_9 u_10 0 0 0 u_14 0 u_16 u_17 u_18 u_19 u_20 u_21 (am 5) u_23 u_24 u_25 u_26 u_27 u_28 u_29 u_30 u_31 u_32 u_33 u_34 u_35 u_36 u_37 u_38 u_39 u_40 0 (am 12) 0 u_44 u_45 u_46 u_47 u_48 u_49 u_50 u_51 u_52 u_53 )
    refine z_calli (w0 := [(am 1, .inl (tm 1, 283, .inl (upd (fun _ => 0) 4 2))), (am 18, .inr (11, [.int 0, .ref u_1, .int 0, .int 0, .int 0, .int 400, .ref (am 1), .ref u_7, .ref u_8, .ref u_9, .ref u_10, .int 0, .int 0, .int 0, .int u_14, .int 0, .int u_16, .long u_17, .int u_18, .int u_19, .int u_20, .ref u_21, .ref (am 5), .int u_23, .int u_24, .int u_25, .int u_26, .ref u_27, .int u_28, .ref u_29, .int u_30, .int u_31, .ref u_32, .int u_33, .ref u_34, .ref u_35, .int u_36, .int u_37, .ref u_38, .int u_39, .int u_40, .int 0, .ref (am 12), .int 0, .ref u_44, .int u_45, .int u_46, .int u_47, .int u_48, .int u_49, .ref u_50, .ref u_51, .ref u_52, .ref u_53]))]) (wr := [(am 12, .inl (tm 12, 4, .inl (upd (upd (upd (upd (upd (fun _ => 0) 0 0) 1 0) 2 0) 3 0) 2 0))), (am 5, .inl (tm 5, 35, .inl g1_2))]) (va_runV (As := []) (rest := [.int 3, .ref (am 12)]) ⟨hx, hb, hml, hown, hts⟩ (hc9 _) (cwV 0 hts gX12_book_X12_openSet rfl rfl rfl (by decide +kernel) ⟨Nat.le_of_ble_eq_true rfl, Nat.le_of_ble_eq_true rfl⟩) (z_preV hP hD hK hS hA hE hO [1, 3] [0] rfl (by decide +kernel) rfl 3 11 rfl rfl rfl) rfl rfl hl.1 rfl (lv_room (Nat.le_of_ble_eq_true rfl)) dX12_book_210 ⟨Nat.le_of_ble_eq_true rfl, Nat.le_of_ble_eq_true rfl⟩) hP hD hK hS hA [1, 3] [0, 2] rfl rfl (by decide +kernel) (by decide +kernel) (fun r9 u9 H locs hw hP hD hK hS => ?_)
    obtain ⟨er9, rfl⟩ := hw
    have hP : va_P D vwCl [(am 12, .inl (tm 12, 4, .inl (upd (upd (upd (upd (upd (fun _ => 0) 0 0) 1 0) 2 0) 3 0) 2 0))), (am 5, .inl (tm 5, 35, .inl g1_2)), (am 1, .inl (tm 1, 283, .inl (upd (fun _ => 0) 4 2))), (am 18, .inr (11, [.int 0, .ref u_1, .int 0, .int 0, .int 0, .int 400, .ref (am 1), .ref u_7, .ref u_8, .ref u_9, .ref u_10, .int 0, .int 0, .int 0, .int u_14, .int 0, .int u_16, .long u_17, .int u_18, .int u_19, .int u_20, .ref u_21, .ref (am 5), .int u_23, .int u_24, .int u_25, .int u_26, .ref u_27, .int u_28, .ref u_29, .int u_30, .int u_31, .ref u_32, .int u_33, .ref u_34, .ref u_35, .int u_36, .int u_37, .ref u_38, .int u_39, .int u_40, .int 0, .ref (am 12), .int 0, .ref u_44, .int u_45, .int u_46, .int u_47, .int u_48, .int u_49, .ref u_50, .ref u_51, .ref u_52, .ref u_53]))] H := hP
    have hD : va_D A [(am 12, .inl (tm 12, 4, .inl (upd (upd (upd (upd (upd (fun _ => 0) 0 0) 1 0) 2 0) 3 0) 2 0))), (am 5, .inl (tm 5, 35, .inl g1_2)), (am 1, .inl (tm 1, 283, .inl (upd (fun _ => 0) 4 2))), (am 18, .inr (11, [.int 0, .ref u_1, .int 0, .int 0, .int 0, .int 400, .ref (am 1), .ref u_7, .ref u_8, .ref u_9, .ref u_10, .int 0, .int 0, .int 0, .int u_14, .int 0, .int u_16, .long u_17, .int u_18, .int u_19, .int u_20, .ref u_21, .ref (am 5), .int u_23, .int u_24, .int u_25, .int u_26, .ref u_27, .int u_28, .ref u_29, .int u_30, .int u_31, .ref u_32, .int u_33, .ref u_34, .ref u_35, .int u_36, .int u_37, .ref u_38, .int u_39, .int u_40, .int 0, .ref (am 12), .int 0, .ref u_44, .int u_45, .int u_46, .int u_47, .int u_48, .int u_49, .ref u_50, .ref u_51, .ref u_52, .ref u_53]))] := hD
    have hK : va_K D vwCl [(tm 1, .int), (tm 5, .int), (tm 12, .int)] s := hK
    refine W.cs (cells' := 0) (slots' := 0) rfl rfl ?_
    obtain rfl := er9
    refine W.eq (g2 := F0 m 213 ls (.int 0 :: [.int 3, .ref (am 12)])) rfl ?_
    refine va_iast hx hb hK hP hD hS 0 2 rfl rfl (show ¬ (_ ∨ _) by decide) dX12_book_213 (fun H locs hP hD hS => ?_)
    have hP : va_P D vwCl [(am 12, .inl (tm 12, 4, .inl (upd (upd (upd (upd (upd (upd (fun _ => 0) 0 0) 1 0) 2 0) 3 0) 2 0) 3 0))), (am 5, .inl (tm 5, 35, .inl g1_2)), (am 1, .inl (tm 1, 283, .inl (upd (fun _ => 0) 4 2))), (am 18, .inr (11, [.int 0, .ref u_1, .int 0, .int 0, .int 0, .int 400, .ref (am 1), .ref u_7, .ref u_8, .ref u_9, .ref u_10, .int 0, .int 0, .int 0, .int u_14, .int 0, .int u_16, .long u_17, .int u_18, .int u_19, .int u_20, .ref u_21, .ref (am 5), .int u_23, .int u_24, .int u_25, .int u_26, .ref u_27, .int u_28, .ref u_29, .int u_30, .int u_31, .ref u_32, .int u_33, .ref u_34, .ref u_35, .int u_36, .int u_37, .ref u_38, .int u_39, .int u_40, .int 0, .ref (am 12), .int 0, .ref u_44, .int u_45, .int u_46, .int u_47, .int u_48, .int u_49, .ref u_50, .ref u_51, .ref u_52, .ref u_53]))] H := hP
    have hD : va_D A [(am 12, .inl (tm 12, 4, .inl (upd (upd (upd (upd (upd (upd (fun _ => 0) 0 0) 1 0) 2 0) 3 0) 2 0) 3 0))), (am 5, .inl (tm 5, 35, .inl g1_2)), (am 1, .inl (tm 1, 283, .inl (upd (fun _ => 0) 4 2))), (am 18, .inr (11, [.int 0, .ref u_1, .int 0, .int 0, .int 0, .int 400, .ref (am 1), .ref u_7, .ref u_8, .ref u_9, .ref u_10, .int 0, .int 0, .int 0, .int u_14, .int 0, .int u_16, .long u_17, .int u_18, .int u_19, .int u_20, .ref u_21, .ref (am 5), .int u_23, .int u_24, .int u_25, .int u_26, .ref u_27, .int u_28, .ref u_29, .int u_30, .int u_31, .ref u_32, .int u_33, .ref u_34, .ref u_35, .int u_36, .int u_37, .ref u_38, .int u_39, .int u_40, .int 0, .ref (am 12), .int 0, .ref u_44, .int u_45, .int u_46, .int u_47, .int u_48, .int u_49, .ref u_50, .ref u_51, .ref u_52, .ref u_53]))] := hD
    refine lv_aload_n hx hb dX12_book_214 rfl (lv_at hl 2 rfl) ?_
    refine lv_iconst (v := 1) hx hb dX12_book_215 (by decide) ?_
    refine va_put (D := D) (ci := 11) (v := .int 1) (ty := tyX12 43) (C := RX12) (T := TX12) (N := 54) hx hb hts hiX12 tyX12 tyX12_ok nmX12 hown hK hP hD hS 3 rfl rfl 43 (by decide) (hts _ (List.mem_of_getElem? (i := 9) rfl)) (fun _ h9 => h9) rfl (tyX12_ok 43 (by decide)) (by decide) (by decide) (Nat.le_of_ble_eq_true rfl) dX12_book_216 (fun H locs hP hD hS => ?_)
    have hP : va_P D vwCl [(am 12, .inl (tm 12, 4, .inl (upd (upd (upd (upd (upd (upd (fun _ => 0) 0 0) 1 0) 2 0) 3 0) 2 0) 3 0))), (am 5, .inl (tm 5, 35, .inl g1_2)), (am 1, .inl (tm 1, 283, .inl (upd (fun _ => 0) 4 2))), (am 18, .inr (11, [.int 0, .ref u_1, .int 0, .int 0, .int 0, .int 400, .ref (am 1), .ref u_7, .ref u_8, .ref u_9, .ref u_10, .int 0, .int 0, .int 0, .int u_14, .int 0, .int u_16, .long u_17, .int u_18, .int u_19, .int u_20, .ref u_21, .ref (am 5), .int u_23, .int u_24, .int u_25, .int u_26, .ref u_27, .int u_28, .ref u_29, .int u_30, .int u_31, .ref u_32, .int u_33, .ref u_34, .ref u_35, .int u_36, .int u_37, .ref u_38, .int u_39, .int u_40, .int 0, .ref (am 12), .int 1, .ref u_44, .int u_45, .int u_46, .int u_47, .int u_48, .int u_49, .ref u_50, .ref u_51, .ref u_52, .ref u_53]))] H := hP
    have hD : va_D A [(am 12, .inl (tm 12, 4, .inl (upd (upd (upd (upd (upd (upd (fun _ => 0) 0 0) 1 0) 2 0) 3 0) 2 0) 3 0))), (am 5, .inl (tm 5, 35, .inl g1_2)), (am 1, .inl (tm 1, 283, .inl (upd (fun _ => 0) 4 2))), (am 18, .inr (11, [.int 0, .ref u_1, .int 0, .int 0, .int 0, .int 400, .ref (am 1), .ref u_7, .ref u_8, .ref u_9, .ref u_10, .int 0, .int 0, .int 0, .int u_14, .int 0, .int u_16, .long u_17, .int u_18, .int u_19, .int u_20, .ref u_21, .ref (am 5), .int u_23, .int u_24, .int u_25, .int u_26, .ref u_27, .int u_28, .ref u_29, .int u_30, .int u_31, .ref u_32, .int u_33, .ref u_34, .ref u_35, .int u_36, .int u_37, .ref u_38, .int u_39, .int u_40, .int 0, .ref (am 12), .int 1, .ref u_44, .int u_45, .int u_46, .int u_47, .int u_48, .int u_49, .ref u_50, .ref u_51, .ref u_52, .ref u_53]))] := hD
    refine lv_iload_n hx hb dX12_book_219 rfl (lv_at hl 3 rfl) ?_
    refine lv_iconst (v := 1) hx hb dX12_book_220 (by decide) ?_
    refine lv_icmp_ne (tgt := 273) hx hb dX12_book_221 (by decide) (fun c_3 => ?_) (fun c_3 => ?_)
    · refine lv_iload_n hx hb dX12_book_273 rfl (lv_at hl 3 rfl) ?_
      refine lv_if_ne (tgt := 281) hx hb dX12_book_274 (by decide) (fun c_4 => ?_) (fun c_4 => ?_)
      · refine lv_iload_n hx hb dX12_book_281 rfl (lv_at hl 1 rfl) ?_
        refine W.widen (k := 0) (n := 0) (by decide) (by decide) ?_
        exact hret (-1) ([], []) _ _ _ _ dX12_book_282 rfl ⟨by unfold s_X12_book; rw [if_neg c_1, if_neg c_3, if_neg c_4], rfl⟩ (hP.sub [] rfl) (hK.sub [] rfl) (hD.sub [] (by decide +kernel) rfl) hS
      · refine lv_aload_n hx hb dX12_book_277 rfl (lv_at hl 2 rfl) ?_
        have hc9 := (k_X12_back l D ad am tm (upd (fun _ => 0) 4 2) g1_2 0 u_1 0 0 0 400 u_7 u_8 u_9 u_10 0 0 0 u_14 0 u_16 u_17 u_18 u_19 u_20 u_21 u_23 u_24 u_25 u_26 u_27 u_28 u_29 u_30 u_31 u_32 u_33 u_34 u_35 u_36 u_37 u_38 u_39 u_40 0 (am 12) 1 u_44 u_45 u_46 u_47 u_48 u_49 u_50 u_51 u_52 u_53 )
        refine z_callv (w0 := [(am 1, .inl (tm 1, 283, .inl (upd (fun _ => 0) 4 2))), (am 5, .inl (tm 5, 35, .inl g1_2)), (am 18, .inr (11, [.int 0, .ref u_1, .int 0, .int 0, .int 0, .int 400, .ref (am 1), .ref u_7, .ref u_8, .ref u_9, .ref u_10, .int 0, .int 0, .int 0, .int u_14, .int 0, .int u_16, .long u_17, .int u_18, .int u_19, .int u_20, .ref u_21, .ref (am 5), .int u_23, .int u_24, .int u_25, .int u_26, .ref u_27, .int u_28, .ref u_29, .int u_30, .int u_31, .ref u_32, .int u_33, .ref u_34, .ref u_35, .int u_36, .int u_37, .ref u_38, .int u_39, .int u_40, .int 0, .ref (am 12), .int 1, .ref u_44, .int u_45, .int u_46, .int u_47, .int u_48, .int u_49, .ref u_50, .ref u_51, .ref u_52, .ref u_53]))]) (wr := [(am 12, .inl (tm 12, 4, .inl (upd (upd (upd (upd (upd (upd (fun _ => 0) 0 0) 1 0) 2 0) 3 0) 2 0) 3 0)))]) (va_runV (As := []) (rest := []) ⟨hx, hb, hml, hown, hts⟩ (hc9 _) (cwV 0 hts gX12_book_X12_back rfl rfl rfl (by decide +kernel) ⟨Nat.le_of_ble_eq_true rfl, Nat.le_of_ble_eq_true rfl⟩) (z_preV hP hD hK hS hA hE hO [2, 1, 3] [0, 1] rfl (by decide +kernel) rfl 3 11 rfl rfl rfl) rfl rfl hl.1 rfl (lv_room (Nat.le_of_ble_eq_true rfl)) dX12_book_278 ⟨Nat.le_of_ble_eq_true rfl, Nat.le_of_ble_eq_true rfl⟩) hP hD hK hS hA [2, 1, 3] [0] rfl rfl (by decide +kernel) (by decide +kernel) (fun u9 H locs hw hP hD hK hS => ?_)
        obtain ⟨g1_5, rfl⟩ := hw
        have hP : va_P D vwCl [(am 12, .inl (tm 12, 4, .inl (upd (upd (upd (upd (upd (upd (fun _ => 0) 0 0) 1 0) 2 0) 3 0) 2 0) 3 0))), (am 1, .inl (tm 1, 283, .inl g1_5)), (am 5, .inl (tm 5, 35, .inl g1_2)), (am 18, .inr (11, [.int 0, .ref u_1, .int 0, .int 0, .int 0, .int 400, .ref (am 1), .ref u_7, .ref u_8, .ref u_9, .ref u_10, .int 0, .int 0, .int 0, .int u_14, .int 0, .int u_16, .long u_17, .int u_18, .int u_19, .int u_20, .ref u_21, .ref (am 5), .int u_23, .int u_24, .int u_25, .int u_26, .ref u_27, .int u_28, .ref u_29, .int u_30, .int u_31, .ref u_32, .int u_33, .ref u_34, .ref u_35, .int u_36, .int u_37, .ref u_38, .int u_39, .int u_40, .int 0, .ref (am 12), .int 1, .ref u_44, .int u_45, .int u_46, .int u_47, .int u_48, .int u_49, .ref u_50, .ref u_51, .ref u_52, .ref u_53]))] H := hP
        have hD : va_D A [(am 12, .inl (tm 12, 4, .inl (upd (upd (upd (upd (upd (upd (fun _ => 0) 0 0) 1 0) 2 0) 3 0) 2 0) 3 0))), (am 1, .inl (tm 1, 283, .inl g1_5)), (am 5, .inl (tm 5, 35, .inl g1_2)), (am 18, .inr (11, [.int 0, .ref u_1, .int 0, .int 0, .int 0, .int 400, .ref (am 1), .ref u_7, .ref u_8, .ref u_9, .ref u_10, .int 0, .int 0, .int 0, .int u_14, .int 0, .int u_16, .long u_17, .int u_18, .int u_19, .int u_20, .ref u_21, .ref (am 5), .int u_23, .int u_24, .int u_25, .int u_26, .ref u_27, .int u_28, .ref u_29, .int u_30, .int u_31, .ref u_32, .int u_33, .ref u_34, .ref u_35, .int u_36, .int u_37, .ref u_38, .int u_39, .int u_40, .int 0, .ref (am 12), .int 1, .ref u_44, .int u_45, .int u_46, .int u_47, .int u_48, .int u_49, .ref u_50, .ref u_51, .ref u_52, .ref u_53]))] := hD
        have hK : va_K D vwCl [(tm 1, .int), (tm 5, .int), (tm 12, .int)] s := hK
        refine W.cs (cells' := 0) (slots' := 0) rfl rfl ?_
        refine lv_iload_n hx hb dX12_book_281 rfl (lv_at hl 1 rfl) ?_
        refine W.widen (k := 0) (n := 0) (by decide) (by decide) ?_
        exact hret (-1) ([], []) _ _ _ _ dX12_book_282 rfl ⟨by unfold s_X12_book; rw [if_neg c_1, if_neg c_3, if_pos c_4], rfl⟩ (hP.sub [] rfl) (hK.sub [] rfl) (hD.sub [] (by decide +kernel) rfl) hS
    · refine lv_aload_n hx hb dX12_book_224 rfl (lv_at hl 2 rfl) ?_
      refine va_get (D := D) (ci := 11) (v := .ref (am 12)) (C := RX12) (T := TX12) (N := 54) hx hb hts hiX12 hown hK hP 3 rfl rfl 42 (by decide) (hts _ (List.mem_of_getElem? (i := 6) rfl)) (fun _ h9 => h9) rfl dX12_book_225 ?_
      refine lv_iconst (v := 1) hx hb dX12_book_228 (by decide) ?_
      refine va_iald hx hb hK hP 0 2 rfl rfl (show ¬ (_ ∨ _) by decide) dX12_book_229 ?_
      refine W.eq (g2 := F0 m 230 ls (.int 0 :: [])) rfl ?_
      refine lv_if_le (tgt := 273) hx hb dX12_book_230 (by decide) (fun _ => ?_) (fun h9 => absurd (by decide) h9)
      refine lv_iload_n hx hb dX12_book_273 rfl (lv_at hl 3 rfl) ?_
      refine lv_if_ne (tgt := 281) hx hb dX12_book_274 (by decide) (fun _ => ?_) (fun h9 => absurd h9 (by rw [c_3]; decide))
      refine lv_iload_n hx hb dX12_book_281 rfl (lv_at hl 1 rfl) ?_
      refine W.widen (k := 0) (n := 0) (by decide) (by decide) ?_
      exact hret (-1) ([], []) _ _ _ _ dX12_book_282 rfl ⟨by unfold s_X12_book; rw [if_neg c_1, if_pos c_3], rfl⟩ (hP.sub [] rfl) (hK.sub [] rfl) (hD.sub [] (by decide +kernel) rfl) hS
  · refine lv_sipush (v := (-1000)) hx hb dX12_book_14 (by decide) ?_
    refine W.widen (k := 0) (n := 0) (by decide) (by decide) ?_
    exact hret (-1000) ([], []) _ _ _ _ dX12_book_17 rfl ⟨by unfold s_X12_book; rw [if_pos c_1], rfl⟩ (hP.sub [] rfl) (hK.sub [] rfl) (hD.sub [] (by decide +kernel) rfl) hS

set_option maxHeartbeats 8000000 in
set_option maxRecDepth 100000 in
theorem k_X12_image (l : Launch) (D : va_G) (ad : Nat → Nat) (am : Nat → Nat) (tm : Nat → ClassId) (p0 : Int32) (u_1 : Nat) (u_2 : Int32) (u_3 : Int32) (u_4 : Int32) (u_5 : Int32) (u_7 : Nat) (u_8 : Nat) (u_10 : Nat) (u_11 : Int32) (u_12 : Int32) (u_13 : Int32) (u_14 : Int32) (u_15 : Int32) (u_16 : Int32) (u_17 : Int64) (u_18 : Int32) (u_19 : Int32) (u_20 : Int32) (u_21 : Nat) (u_22 : Nat) (u_23 : Int32) (u_24 : Int32) (u_25 : Int32) (u_26 : Int32) (u_27 : Nat) (u_28 : Int32) (u_29 : Nat) (u_30 : Int32) (u_31 : Int32) (u_32 : Nat) (u_33 : Int32) (u_34 : Nat) (u_35 : Nat) (u_36 : Int32) (u_37 : Int32) (u_38 : Nat) (u_39 : Int32) (u_40 : Int32) (u_41 : Int32) (u_42 : Nat) (u_43 : Int32) (u_44 : Nat) (u_45 : Int32) (u_46 : Int32) (u_47 : Int32) (u_48 : Int32) (u_49 : Int32) (u_50 : Nat)  : z_Mi l yX12_image wsX12_image { frames := 1, cells := 0, slots := 0, locals := 22 } D ad [.ref (am 18), .int p0] [(am 1, .inl (tm 1, 283, .inl (upd (fun _ => 0) 4 2))), (am 3, .inl (tm 3, 36, .inr (.inl (fun _ => 0)))), (am 15, .inl (tm 15, 566, .inl (fun _ => 0))), (am 16, .inl (tm 16, 36, .inr (.inl (fun _ => 0)))), (am 17, .inl (tm 17, 2, .inl (fun _ => 0))), (am 18, .inr (11, [.int 0, .ref u_1, .int u_2, .int u_3, .int u_4, .int u_5, .ref (am 1), .ref u_7, .ref u_8, .ref (am 3), .ref u_10, .int u_11, .int u_12, .int u_13, .int u_14, .int u_15, .int u_16, .long u_17, .int u_18, .int u_19, .int u_20, .ref u_21, .ref u_22, .int u_23, .int u_24, .int u_25, .int u_26, .ref u_27, .int u_28, .ref u_29, .int u_30, .int u_31, .ref u_32, .int u_33, .ref u_34, .ref u_35, .int u_36, .int u_37, .ref u_38, .int u_39, .int u_40, .int u_41, .ref u_42, .int u_43, .ref u_44, .int u_45, .int u_46, .int u_47, .int u_48, .int u_49, .ref u_50, .ref (am 15), .ref (am 16), .ref (am 17)]))] [(tm 1, .int), (tm 3, .long), (tm 15, .int), (tm 16, .long), (tm 17, .boolean)] 0 0 (fun r9 u9 => r9 = s_X12_image p0 ∧ u9 = ([], [])) := by
  refine z_ofI (cc := cX12_image) (maxL := 3) (rt := .boolean) (by decide) rfl (Nat.le_of_ble_eq_true rfl) ?_
  intro p e s m below meth c Q A ls hx hb hml hown hts hin hK hP hD hA hE hO hS hl hret
  have hown : s.vm.findClass RX12 = some m.cls := hown
  have hiX12 : ∀ w ∈ wsX120, w ∈ wsX12_image := fun _ h9 => List.mem_cons_of_mem _ (List.mem_append_right _ h9)
  have hl : lv_has ls 3 [(0, .ref (am 18)), (1, .int p0)] := hl
  refine lv_aload_n hx hb dX12_image_0 rfl (lv_at hl 0 rfl) ?_
  refine lv_iconst (v := 0) hx hb dX12_image_1 (by decide) ?_
  refine va_put (D := D) (ci := 11) (v := .int 0) (ty := tyX12 0) (C := RX12) (T := TX12) (N := 54) hx hb hts hiX12 tyX12 tyX12_ok nmX12 hown hK hP hD hS 5 rfl rfl 0 (by decide) (hts _ (List.mem_of_getElem? (i := 1) rfl)) (fun _ h9 => h9) rfl (tyX12_ok 0 (by decide)) rfl rfl (Nat.le_of_ble_eq_true rfl) dX12_image_2 (fun H locs hP hD hS => ?_)
  have hP : va_P D vwCl [(am 1, .inl (tm 1, 283, .inl (upd (fun _ => 0) 4 2))), (am 3, .inl (tm 3, 36, .inr (.inl (fun _ => 0)))), (am 15, .inl (tm 15, 566, .inl (fun _ => 0))), (am 16, .inl (tm 16, 36, .inr (.inl (fun _ => 0)))), (am 17, .inl (tm 17, 2, .inl (fun _ => 0))), (am 18, .inr (11, [.int 0, .ref u_1, .int u_2, .int u_3, .int u_4, .int u_5, .ref (am 1), .ref u_7, .ref u_8, .ref (am 3), .ref u_10, .int u_11, .int u_12, .int u_13, .int u_14, .int u_15, .int u_16, .long u_17, .int u_18, .int u_19, .int u_20, .ref u_21, .ref u_22, .int u_23, .int u_24, .int u_25, .int u_26, .ref u_27, .int u_28, .ref u_29, .int u_30, .int u_31, .ref u_32, .int u_33, .ref u_34, .ref u_35, .int u_36, .int u_37, .ref u_38, .int u_39, .int u_40, .int u_41, .ref u_42, .int u_43, .ref u_44, .int u_45, .int u_46, .int u_47, .int u_48, .int u_49, .ref u_50, .ref (am 15), .ref (am 16), .ref (am 17)]))] H := hP
  have hD : va_D A [(am 1, .inl (tm 1, 283, .inl (upd (fun _ => 0) 4 2))), (am 3, .inl (tm 3, 36, .inr (.inl (fun _ => 0)))), (am 15, .inl (tm 15, 566, .inl (fun _ => 0))), (am 16, .inl (tm 16, 36, .inr (.inl (fun _ => 0)))), (am 17, .inl (tm 17, 2, .inl (fun _ => 0))), (am 18, .inr (11, [.int 0, .ref u_1, .int u_2, .int u_3, .int u_4, .int u_5, .ref (am 1), .ref u_7, .ref u_8, .ref (am 3), .ref u_10, .int u_11, .int u_12, .int u_13, .int u_14, .int u_15, .int u_16, .long u_17, .int u_18, .int u_19, .int u_20, .ref u_21, .ref u_22, .int u_23, .int u_24, .int u_25, .int u_26, .ref u_27, .int u_28, .ref u_29, .int u_30, .int u_31, .ref u_32, .int u_33, .ref u_34, .ref u_35, .int u_36, .int u_37, .ref u_38, .int u_39, .int u_40, .int u_41, .ref u_42, .int u_43, .ref u_44, .int u_45, .int u_46, .int u_47, .int u_48, .int u_49, .ref u_50, .ref (am 15), .ref (am 16), .ref (am 17)]))] := hD
  refine lv_iload_n hx hb dX12_image_5 rfl (lv_at hl 1 rfl) ?_
  refine lv_iconst (v := 0) hx hb dX12_image_6 (by decide) ?_
  refine lv_iconst (v := 1) hx hb dX12_image_7 (by decide) ?_
  have hc9 := (k_X12_isIn l D ad p0 0 1 )
  refine z_calli (w0 := []) (wr := [(am 1, .inl (tm 1, 283, .inl (upd (fun _ => 0) 4 2))), (am 3, .inl (tm 3, 36, .inr (.inl (fun _ => 0)))), (am 15, .inl (tm 15, 566, .inl (fun _ => 0))), (am 16, .inl (tm 16, 36, .inr (.inl (fun _ => 0)))), (am 17, .inl (tm 17, 2, .inl (fun _ => 0))), (am 18, .inr (11, [.int 0, .ref u_1, .int u_2, .int u_3, .int u_4, .int u_5, .ref (am 1), .ref u_7, .ref u_8, .ref (am 3), .ref u_10, .int u_11, .int u_12, .int u_13, .int u_14, .int u_15, .int u_16, .long u_17, .int u_18, .int u_19, .int u_20, .ref u_21, .ref u_22, .int u_23, .int u_24, .int u_25, .int u_26, .ref u_27, .int u_28, .ref u_29, .int u_30, .int u_31, .ref u_32, .int u_33, .ref u_34, .ref u_35, .int u_36, .int u_37, .ref u_38, .int u_39, .int u_40, .int u_41, .ref u_42, .int u_43, .ref u_44, .int u_45, .int u_46, .int u_47, .int u_48, .int u_49, .ref u_50, .ref (am 15), .ref (am 16), .ref (am 17)]))]) (va_runS (As := [.int p0, .int 0, .int 1]) (rest := []) ⟨hx, hb, hml, hown, hts⟩ (hc9 _) (va_cwS 3 hts gX12_image_X12_isIn rfl rfl rfl (by decide +kernel) ⟨Nat.le_of_ble_eq_true rfl, Nat.le_of_ble_eq_true rfl⟩) (z_preS hP hD hK hS hA hE hO [] [] rfl (by decide +kernel) rfl) rfl rfl hl.1 rfl (lv_room (Nat.le_of_ble_eq_true rfl)) dX12_image_8 ⟨Nat.le_of_ble_eq_true rfl, Nat.le_of_ble_eq_true rfl⟩) hP hD hK hS hA [] [0, 1, 2, 3, 4, 5] rfl rfl (by decide +kernel) (by decide +kernel) (fun r9 u9 H locs hw hP hD hK hS => ?_)
  obtain ⟨er9, rfl⟩ := hw
  have hP : va_P D vwCl [(am 1, .inl (tm 1, 283, .inl (upd (fun _ => 0) 4 2))), (am 3, .inl (tm 3, 36, .inr (.inl (fun _ => 0)))), (am 15, .inl (tm 15, 566, .inl (fun _ => 0))), (am 16, .inl (tm 16, 36, .inr (.inl (fun _ => 0)))), (am 17, .inl (tm 17, 2, .inl (fun _ => 0))), (am 18, .inr (11, [.int 0, .ref u_1, .int u_2, .int u_3, .int u_4, .int u_5, .ref (am 1), .ref u_7, .ref u_8, .ref (am 3), .ref u_10, .int u_11, .int u_12, .int u_13, .int u_14, .int u_15, .int u_16, .long u_17, .int u_18, .int u_19, .int u_20, .ref u_21, .ref u_22, .int u_23, .int u_24, .int u_25, .int u_26, .ref u_27, .int u_28, .ref u_29, .int u_30, .int u_31, .ref u_32, .int u_33, .ref u_34, .ref u_35, .int u_36, .int u_37, .ref u_38, .int u_39, .int u_40, .int u_41, .ref u_42, .int u_43, .ref u_44, .int u_45, .int u_46, .int u_47, .int u_48, .int u_49, .ref u_50, .ref (am 15), .ref (am 16), .ref (am 17)]))] H := hP
  have hD : va_D A [(am 1, .inl (tm 1, 283, .inl (upd (fun _ => 0) 4 2))), (am 3, .inl (tm 3, 36, .inr (.inl (fun _ => 0)))), (am 15, .inl (tm 15, 566, .inl (fun _ => 0))), (am 16, .inl (tm 16, 36, .inr (.inl (fun _ => 0)))), (am 17, .inl (tm 17, 2, .inl (fun _ => 0))), (am 18, .inr (11, [.int 0, .ref u_1, .int u_2, .int u_3, .int u_4, .int u_5, .ref (am 1), .ref u_7, .ref u_8, .ref (am 3), .ref u_10, .int u_11, .int u_12, .int u_13, .int u_14, .int u_15, .int u_16, .long u_17, .int u_18, .int u_19, .int u_20, .ref u_21, .ref u_22, .int u_23, .int u_24, .int u_25, .int u_26, .ref u_27, .int u_28, .ref u_29, .int u_30, .int u_31, .ref u_32, .int u_33, .ref u_34, .ref u_35, .int u_36, .int u_37, .ref u_38, .int u_39, .int u_40, .int u_41, .ref u_42, .int u_43, .ref u_44, .int u_45, .int u_46, .int u_47, .int u_48, .int u_49, .ref u_50, .ref (am 15), .ref (am 16), .ref (am 17)]))] := hD
  have hK : va_K D vwCl [(tm 1, .int), (tm 3, .long), (tm 15, .int), (tm 16, .long), (tm 17, .boolean)] s := hK
  refine W.cs (cells' := 0) (slots' := 0) rfl rfl ?_
  obtain rfl := er9
  refine W.eq (g2 := F0 m 11 ls (.int (s_X12_isIn p0 0 1) :: [])) rfl ?_
  refine lv_if_ne (tgt := 16) hx hb dX12_image_11 (by decide) (fun c_1 => ?_) (fun c_1 => ?_)
  · obtain ⟨j9, hj9, rfl⟩ := z_ix 2 (by decide) (z_isIn c_1).1 (z_le (k := 1) (n := 2) rfl (by decide) (z_isIn c_1).2)
    rcases (show j9 = 0 ∨ j9 = 1 by omega) with rfl | rfl
    · refine lv_iconst (v := 0) hx hb dX12_image_16 (by decide) ?_
      refine lv_istore_n (lv' := [(2, .int 0), (0, .ref (am 18)), (1, .int 0)]) hx hb dX12_image_17 rfl hl (by decide) rfl (fun ls hl => ?_)
      have LP1 : ∀ (n k1 : Nat) (g1_0 : Nat → Int32) (H : Heap) (locs : List Loc) (ls : Array Slot), k1 ≤ 283 → 283 < k1 + n → va_P D vwCl [(am 1, .inl (tm 1, 283, .inl (upd (fun _ => 0) 4 2))), (am 3, .inl (tm 3, 36, .inr (.inl (fun _ => 0)))), (am 15, .inl (tm 15, 566, .inl g1_0)), (am 16, .inl (tm 16, 36, .inr (.inl (fun _ => 0)))), (am 17, .inl (tm 17, 2, .inl (fun _ => 0))), (am 18, .inr (11, [.int 0, .ref u_1, .int u_2, .int u_3, .int u_4, .int u_5, .ref (am 1), .ref u_7, .ref u_8, .ref (am 3), .ref u_10, .int u_11, .int u_12, .int u_13, .int u_14, .int u_15, .int u_16, .long u_17, .int u_18, .int u_19, .int u_20, .ref u_21, .ref u_22, .int u_23, .int u_24, .int u_25, .int u_26, .ref u_27, .int u_28, .ref u_29, .int u_30, .int u_31, .ref u_32, .int u_33, .ref u_34, .ref u_35, .int u_36, .int u_37, .ref u_38, .int u_39, .int u_40, .int u_41, .ref u_42, .int u_43, .ref u_44, .int u_45, .int u_46, .int u_47, .int u_48, .int u_49, .ref u_50, .ref (am 15), .ref (am 16), .ref (am 17)]))] H → va_D A [(am 1, .inl (tm 1, 283, .inl (upd (fun _ => 0) 4 2))), (am 3, .inl (tm 3, 36, .inr (.inl (fun _ => 0)))), (am 15, .inl (tm 15, 566, .inl g1_0)), (am 16, .inl (tm 16, 36, .inr (.inl (fun _ => 0)))), (am 17, .inl (tm 17, 2, .inl (fun _ => 0))), (am 18, .inr (11, [.int 0, .ref u_1, .int u_2, .int u_3, .int u_4, .int u_5, .ref (am 1), .ref u_7, .ref u_8, .ref (am 3), .ref u_10, .int u_11, .int u_12, .int u_13, .int u_14, .int u_15, .int u_16, .long u_17, .int u_18, .int u_19, .int u_20, .ref u_21, .ref u_22, .int u_23, .int u_24, .int u_25, .int u_26, .ref u_27, .int u_28, .ref u_29, .int u_30, .int u_31, .ref u_32, .int u_33, .ref u_34, .ref u_35, .int u_36, .int u_37, .ref u_38, .int u_39, .int u_40, .int u_41, .ref u_42, .int u_43, .ref u_44, .int u_45, .int u_46, .int u_47, .int u_48, .int u_49, .ref u_50, .ref (am 15), .ref (am 16), .ref (am 17)]))] → va_S A s.heap H locs → lv_has ls 3 [(2, .int (nI k1)), (0, .ref (am 18)), (1, .int 0)] → W p l e ({ frames := 1, cells := 0, slots := 0, locals := 22 }) s m ([.ref (am 18), .int (nI 0)] : List Value).toArray below meth c H locs 0 0 Q (F0 m 18 ls []) := by
        intro n
        induction n with
        | zero => intro k1 g1_0 H locs ls h1 h2; exact absurd h2 (by omega)
        | succ n ih1 =>
          intro k1 g1_0 H locs ls hk1 hn1  hP hD hS hl
          refine lv_iload_n hx hb dX12_image_18 rfl (lv_at hl 0 rfl) ?_
          refine lv_sipush (v := 283) hx hb dX12_image_19 (by decide) ?_
          refine lv_icmp_ge (tgt := 49) hx hb dX12_image_22 (by decide) (fun c_2 => ?_) (fun c_2 => ?_)
          · have hek1 : k1 = 283 := by
              rcases Nat.lt_or_ge k1 283 with q | q
              · exact absurd c_2 (nI_ge q (by decide))
              · omega
            refine lv_iconst (v := 0) hx hb dX12_image_49 (by decide) ?_
            refine lv_istore_n (lv' := [(2, .int 0), (0, .ref (am 18)), (1, .int 0)]) hx hb dX12_image_50 rfl hl (by decide) rfl (fun ls hl => ?_)
            have LP2 : ∀ (n k2 : Nat) (g2_0 : Nat → Int64) (H : Heap) (locs : List Loc) (ls : Array Slot), k2 ≤ 18 → 18 < k2 + n → va_P D vwCl [(am 1, .inl (tm 1, 283, .inl (upd (fun _ => 0) 4 2))), (am 3, .inl (tm 3, 36, .inr (.inl (fun _ => 0)))), (am 15, .inl (tm 15, 566, .inl g1_0)), (am 16, .inl (tm 16, 36, .inr (.inl g2_0))), (am 17, .inl (tm 17, 2, .inl (fun _ => 0))), (am 18, .inr (11, [.int 0, .ref u_1, .int u_2, .int u_3, .int u_4, .int u_5, .ref (am 1), .ref u_7, .ref u_8, .ref (am 3), .ref u_10, .int u_11, .int u_12, .int u_13, .int u_14, .int u_15, .int u_16, .long u_17, .int u_18, .int u_19, .int u_20, .ref u_21, .ref u_22, .int u_23, .int u_24, .int u_25, .int u_26, .ref u_27, .int u_28, .ref u_29, .int u_30, .int u_31, .ref u_32, .int u_33, .ref u_34, .ref u_35, .int u_36, .int u_37, .ref u_38, .int u_39, .int u_40, .int u_41, .ref u_42, .int u_43, .ref u_44, .int u_45, .int u_46, .int u_47, .int u_48, .int u_49, .ref u_50, .ref (am 15), .ref (am 16), .ref (am 17)]))] H → va_D A [(am 1, .inl (tm 1, 283, .inl (upd (fun _ => 0) 4 2))), (am 3, .inl (tm 3, 36, .inr (.inl (fun _ => 0)))), (am 15, .inl (tm 15, 566, .inl g1_0)), (am 16, .inl (tm 16, 36, .inr (.inl g2_0))), (am 17, .inl (tm 17, 2, .inl (fun _ => 0))), (am 18, .inr (11, [.int 0, .ref u_1, .int u_2, .int u_3, .int u_4, .int u_5, .ref (am 1), .ref u_7, .ref u_8, .ref (am 3), .ref u_10, .int u_11, .int u_12, .int u_13, .int u_14, .int u_15, .int u_16, .long u_17, .int u_18, .int u_19, .int u_20, .ref u_21, .ref u_22, .int u_23, .int u_24, .int u_25, .int u_26, .ref u_27, .int u_28, .ref u_29, .int u_30, .int u_31, .ref u_32, .int u_33, .ref u_34, .ref u_35, .int u_36, .int u_37, .ref u_38, .int u_39, .int u_40, .int u_41, .ref u_42, .int u_43, .ref u_44, .int u_45, .int u_46, .int u_47, .int u_48, .int u_49, .ref u_50, .ref (am 15), .ref (am 16), .ref (am 17)]))] → va_S A s.heap H locs → lv_has ls 3 [(2, .int (nI k2)), (0, .ref (am 18)), (1, .int 0)] → W p l e ({ frames := 1, cells := 0, slots := 0, locals := 22 }) s m ([.ref (am 18), .int (nI 0)] : List Value).toArray below meth c H locs 0 0 Q (F0 m 51 ls []) := by
              intro n
              induction n with
              | zero => intro k2 g2_0 H locs ls h1 h2; exact absurd h2 (by omega)
              | succ n ih2 =>
                intro k2 g2_0 H locs ls hk2 hn2  hP hD hS hl
                refine lv_iload_n hx hb dX12_image_51 rfl (lv_at hl 0 rfl) ?_
                refine lv_bipush (v := 18) hx hb dX12_image_52 (by decide) ?_
                refine lv_icmp_ge (tgt := 80) hx hb dX12_image_54 (by decide) (fun c_3 => ?_) (fun c_3 => ?_)
                · have hek2 : k2 = 18 := by
                    rcases Nat.lt_or_ge k2 18 with q | q
                    · exact absurd c_3 (nI_ge q (by decide))
                    · omega
                  refine lv_aload_n hx hb dX12_image_80 rfl (lv_at hl 1 rfl) ?_
                  refine va_get (D := D) (ci := 11) (v := .ref (am 17)) (C := RX12) (T := TX12) (N := 54) hx hb hts hiX12 hown hK hP 5 rfl rfl 53 (by decide) (hts _ (List.mem_of_getElem? (i := 6) rfl)) (fun _ h9 => h9) rfl dX12_image_81 ?_
                  refine lv_iload_n hx hb dX12_image_84 rfl (lv_at hl 2 rfl) ?_
                  refine lv_iconst (v := 1) hx hb dX12_image_85 (by decide) ?_
                  refine va_zast hx hb hK hP hD hS 4 4 rfl rfl (show ¬ (_ ∨ _) by decide) dX12_image_86 (fun H locs hP hD hS => ?_)
                  have hP : va_P D vwCl [(am 1, .inl (tm 1, 283, .inl (upd (fun _ => 0) 4 2))), (am 3, .inl (tm 3, 36, .inr (.inl (fun _ => 0)))), (am 15, .inl (tm 15, 566, .inl g1_0)), (am 16, .inl (tm 16, 36, .inr (.inl g2_0))), (am 17, .inl (tm 17, 2, .inl (upd (fun _ => 0) 0 (vp_nar .boolean 1)))), (am 18, .inr (11, [.int 0, .ref u_1, .int u_2, .int u_3, .int u_4, .int u_5, .ref (am 1), .ref u_7, .ref u_8, .ref (am 3), .ref u_10, .int u_11, .int u_12, .int u_13, .int u_14, .int u_15, .int u_16, .long u_17, .int u_18, .int u_19, .int u_20, .ref u_21, .ref u_22, .int u_23, .int u_24, .int u_25, .int u_26, .ref u_27, .int u_28, .ref u_29, .int u_30, .int u_31, .ref u_32, .int u_33, .ref u_34, .ref u_35, .int u_36, .int u_37, .ref u_38, .int u_39, .int u_40, .int u_41, .ref u_42, .int u_43, .ref u_44, .int u_45, .int u_46, .int u_47, .int u_48, .int u_49, .ref u_50, .ref (am 15), .ref (am 16), .ref (am 17)]))] H := hP
                  have hD : va_D A [(am 1, .inl (tm 1, 283, .inl (upd (fun _ => 0) 4 2))), (am 3, .inl (tm 3, 36, .inr (.inl (fun _ => 0)))), (am 15, .inl (tm 15, 566, .inl g1_0)), (am 16, .inl (tm 16, 36, .inr (.inl g2_0))), (am 17, .inl (tm 17, 2, .inl (upd (fun _ => 0) 0 (vp_nar .boolean 1)))), (am 18, .inr (11, [.int 0, .ref u_1, .int u_2, .int u_3, .int u_4, .int u_5, .ref (am 1), .ref u_7, .ref u_8, .ref (am 3), .ref u_10, .int u_11, .int u_12, .int u_13, .int u_14, .int u_15, .int u_16, .long u_17, .int u_18, .int u_19, .int u_20, .ref u_21, .ref u_22, .int u_23, .int u_24, .int u_25, .int u_26, .ref u_27, .int u_28, .ref u_29, .int u_30, .int u_31, .ref u_32, .int u_33, .ref u_34, .ref u_35, .int u_36, .int u_37, .ref u_38, .int u_39, .int u_40, .int u_41, .ref u_42, .int u_43, .ref u_44, .int u_45, .int u_46, .int u_47, .int u_48, .int u_49, .ref u_50, .ref (am 15), .ref (am 16), .ref (am 17)]))] := hD
                  refine lv_iconst (v := 1) hx hb dX12_image_87 (by decide) ?_
                  refine W.widen (k := 0) (n := 0) (by decide) (by decide) ?_
                  exact hret 1 ([], []) _ _ _ _ dX12_image_88 (by decide) ⟨by unfold s_X12_image; rw [if_neg c_1], rfl⟩ (hP.sub [] rfl) (hK.sub [] rfl) (hD.sub [] (by decide +kernel) rfl) hS
                · have hlt2 : k2 < 18 := by
                    rcases Nat.lt_or_ge k2 18 with q | q
                    · exact q
                    · exact absurd (nI_le q (by omega)) c_3
                  refine lv_aload_n hx hb dX12_image_57 rfl (lv_at hl 1 rfl) ?_
                  refine va_get (D := D) (ci := 11) (v := .ref (am 16)) (C := RX12) (T := TX12) (N := 54) hx hb hts hiX12 hown hK hP 5 rfl rfl 52 (by decide) (hts _ (List.mem_of_getElem? (i := 4) rfl)) (fun _ h9 => h9) rfl dX12_image_58 ?_
                  refine lv_bipush (v := 18) hx hb dX12_image_61 (by decide) ?_
                  refine lv_iload_n hx hb dX12_image_63 rfl (lv_at hl 2 rfl) ?_
                  refine lv_imul hx hb dX12_image_64 ?_
                  refine lv_topi (fun y_4 ey_4 => ?_)
                  obtain rfl : y_4 = 0 := ey_4.trans (by decide)
                  refine lv_iload_n hx hb dX12_image_65 rfl (lv_at hl 0 rfl) ?_
                  refine lv_iadd hx hb dX12_image_66 ?_
                  refine lv_topi (fun y_5 ey_5 => ?_)
                  obtain rfl : y_5 = nI (0 + k2) := ey_5.trans (nI_add 0 k2)
                  refine lv_aload_n hx hb dX12_image_67 rfl (lv_at hl 1 rfl) ?_
                  refine va_get (D := D) (ci := 11) (v := .ref (am 3)) (C := RX12) (T := TX12) (N := 54) hx hb hts hiX12 hown hK hP 5 rfl rfl 9 (by decide) (hts _ (List.mem_of_getElem? (i := 5) rfl)) (fun _ h9 => h9) rfl dX12_image_68 ?_
                  refine lv_iload_n hx hb dX12_image_71 rfl (lv_at hl 0 rfl) ?_
                  refine va_lald hx hb hK hP 1 1 rfl rfl (vp_in_nI (show k2 < 36 by omega) (by decide)) dX12_image_72 ?_
                  refine W.eq (g2 := F0 m 73 ls (.long 0 :: [.int (nI (0 + k2)), .ref (am 16)])) rfl ?_
                  refine va_last hx hb hK hP hD hS 3 3 rfl rfl (vp_in_nI (show (0 + k2) < 36 by omega) (by decide)) dX12_image_73 (fun H locs hP hD hS => ?_)
                  rw [nI_clamp (show (0 + k2) < 2 ^ 31 by omega)] at hP hD
                  have hP : va_P D vwCl [(am 1, .inl (tm 1, 283, .inl (upd (fun _ => 0) 4 2))), (am 3, .inl (tm 3, 36, .inr (.inl (fun _ => 0)))), (am 15, .inl (tm 15, 566, .inl g1_0)), (am 16, .inl (tm 16, 36, .inr (.inl (vp_updL g2_0 (0 + k2) 0)))), (am 17, .inl (tm 17, 2, .inl (fun _ => 0))), (am 18, .inr (11, [.int 0, .ref u_1, .int u_2, .int u_3, .int u_4, .int u_5, .ref (am 1), .ref u_7, .ref u_8, .ref (am 3), .ref u_10, .int u_11, .int u_12, .int u_13, .int u_14, .int u_15, .int u_16, .long u_17, .int u_18, .int u_19, .int u_20, .ref u_21, .ref u_22, .int u_23, .int u_24, .int u_25, .int u_26, .ref u_27, .int u_28, .ref u_29, .int u_30, .int u_31, .ref u_32, .int u_33, .ref u_34, .ref u_35, .int u_36, .int u_37, .ref u_38, .int u_39, .int u_40, .int u_41, .ref u_42, .int u_43, .ref u_44, .int u_45, .int u_46, .int u_47, .int u_48, .int u_49, .ref u_50, .ref (am 15), .ref (am 16), .ref (am 17)]))] H := hP
                  have hD : va_D A [(am 1, .inl (tm 1, 283, .inl (upd (fun _ => 0) 4 2))), (am 3, .inl (tm 3, 36, .inr (.inl (fun _ => 0)))), (am 15, .inl (tm 15, 566, .inl g1_0)), (am 16, .inl (tm 16, 36, .inr (.inl (vp_updL g2_0 (0 + k2) 0)))), (am 17, .inl (tm 17, 2, .inl (fun _ => 0))), (am 18, .inr (11, [.int 0, .ref u_1, .int u_2, .int u_3, .int u_4, .int u_5, .ref (am 1), .ref u_7, .ref u_8, .ref (am 3), .ref u_10, .int u_11, .int u_12, .int u_13, .int u_14, .int u_15, .int u_16, .long u_17, .int u_18, .int u_19, .int u_20, .ref u_21, .ref u_22, .int u_23, .int u_24, .int u_25, .int u_26, .ref u_27, .int u_28, .ref u_29, .int u_30, .int u_31, .ref u_32, .int u_33, .ref u_34, .ref u_35, .int u_36, .int u_37, .ref u_38, .int u_39, .int u_40, .int u_41, .ref u_42, .int u_43, .ref u_44, .int u_45, .int u_46, .int u_47, .int u_48, .int u_49, .ref u_50, .ref (am 15), .ref (am 16), .ref (am 17)]))] := hD
                  generalize (vp_updL g2_0 (0 + k2) 0) = f_6 at hP hD
                  refine lv_iinc (v := nI (k2 + 1)) (lv' := [(2, .int (nI (k2 + 1))), (0, .ref (am 18)), (1, .int 0)]) hx hb dX12_image_74 hl (k := 0) rfl (nI_1 k2) (by decide) rfl (fun ls hl => ?_)
                  refine lv_goto (tgt := 51) hx hb dX12_image_77 (by decide) ?_
                  exact ih2 (k2 + 1) f_6 _ _ _ (by omega) (by omega)  hP hD hS (lv_sub hl [0, 1, 2] rfl)
            exact LP2 (18 + 1) 0 (fun _ => 0) _ _ _ (by omega) (by omega)  hP hD hS hl
          · have hlt1 : k1 < 283 := by
              rcases Nat.lt_or_ge k1 283 with q | q
              · exact q
              · exact absurd (nI_le q (by omega)) c_2
            refine lv_aload_n hx hb dX12_image_25 rfl (lv_at hl 1 rfl) ?_
            refine va_get (D := D) (ci := 11) (v := .ref (am 15)) (C := RX12) (T := TX12) (N := 54) hx hb hts hiX12 hown hK hP 5 rfl rfl 51 (by decide) (hts _ (List.mem_of_getElem? (i := 2) rfl)) (fun _ h9 => h9) rfl dX12_image_26 ?_
            refine lv_sipush (v := 283) hx hb dX12_image_29 (by decide) ?_
            refine lv_iload_n hx hb dX12_image_32 rfl (lv_at hl 2 rfl) ?_
            refine lv_imul hx hb dX12_image_33 ?_
            refine lv_topi (fun y_7 ey_7 => ?_)
            obtain rfl : y_7 = 0 := ey_7.trans (by decide)
            refine lv_iload_n hx hb dX12_image_34 rfl (lv_at hl 0 rfl) ?_
            refine lv_iadd hx hb dX12_image_35 ?_
            refine lv_topi (fun y_8 ey_8 => ?_)
            obtain rfl : y_8 = nI (0 + k1) := ey_8.trans (nI_add 0 k1)
            refine lv_aload_n hx hb dX12_image_36 rfl (lv_at hl 1 rfl) ?_
            refine va_get (D := D) (ci := 11) (v := .ref (am 1)) (C := RX12) (T := TX12) (N := 54) hx hb hts hiX12 hown hK hP 5 rfl rfl 6 (by decide) (hts _ (List.mem_of_getElem? (i := 3) rfl)) (fun _ h9 => h9) rfl dX12_image_37 ?_
            refine lv_iload_n hx hb dX12_image_40 rfl (lv_at hl 0 rfl) ?_
            refine va_iald hx hb hK hP 0 0 rfl rfl (vp_in_nI (show k1 < 283 by omega) (by decide)) dX12_image_41 ?_
            refine lv_topi (fun y_9 ey_9 => ?_)
            refine va_iast hx hb hK hP hD hS 2 2 rfl rfl (vp_in_nI (show (0 + k1) < 566 by omega) (by decide)) dX12_image_42 (fun H locs hP hD hS => ?_)
            rw [nI_clamp (show (0 + k1) < 2 ^ 31 by omega)] at hP hD
            have hP : va_P D vwCl [(am 1, .inl (tm 1, 283, .inl (upd (fun _ => 0) 4 2))), (am 3, .inl (tm 3, 36, .inr (.inl (fun _ => 0)))), (am 15, .inl (tm 15, 566, .inl (upd g1_0 (0 + k1) y_9))), (am 16, .inl (tm 16, 36, .inr (.inl (fun _ => 0)))), (am 17, .inl (tm 17, 2, .inl (fun _ => 0))), (am 18, .inr (11, [.int 0, .ref u_1, .int u_2, .int u_3, .int u_4, .int u_5, .ref (am 1), .ref u_7, .ref u_8, .ref (am 3), .ref u_10, .int u_11, .int u_12, .int u_13, .int u_14, .int u_15, .int u_16, .long u_17, .int u_18, .int u_19, .int u_20, .ref u_21, .ref u_22, .int u_23, .int u_24, .int u_25, .int u_26, .ref u_27, .int u_28, .ref u_29, .int u_30, .int u_31, .ref u_32, .int u_33, .ref u_34, .ref u_35, .int u_36, .int u_37, .ref u_38, .int u_39, .int u_40, .int u_41, .ref u_42, .int u_43, .ref u_44, .int u_45, .int u_46, .int u_47, .int u_48, .int u_49, .ref u_50, .ref (am 15), .ref (am 16), .ref (am 17)]))] H := hP
            have hD : va_D A [(am 1, .inl (tm 1, 283, .inl (upd (fun _ => 0) 4 2))), (am 3, .inl (tm 3, 36, .inr (.inl (fun _ => 0)))), (am 15, .inl (tm 15, 566, .inl (upd g1_0 (0 + k1) y_9))), (am 16, .inl (tm 16, 36, .inr (.inl (fun _ => 0)))), (am 17, .inl (tm 17, 2, .inl (fun _ => 0))), (am 18, .inr (11, [.int 0, .ref u_1, .int u_2, .int u_3, .int u_4, .int u_5, .ref (am 1), .ref u_7, .ref u_8, .ref (am 3), .ref u_10, .int u_11, .int u_12, .int u_13, .int u_14, .int u_15, .int u_16, .long u_17, .int u_18, .int u_19, .int u_20, .ref u_21, .ref u_22, .int u_23, .int u_24, .int u_25, .int u_26, .ref u_27, .int u_28, .ref u_29, .int u_30, .int u_31, .ref u_32, .int u_33, .ref u_34, .ref u_35, .int u_36, .int u_37, .ref u_38, .int u_39, .int u_40, .int u_41, .ref u_42, .int u_43, .ref u_44, .int u_45, .int u_46, .int u_47, .int u_48, .int u_49, .ref u_50, .ref (am 15), .ref (am 16), .ref (am 17)]))] := hD
            generalize (upd g1_0 (0 + k1) y_9) = f_10 at hP hD
            refine lv_iinc (v := nI (k1 + 1)) (lv' := [(2, .int (nI (k1 + 1))), (0, .ref (am 18)), (1, .int 0)]) hx hb dX12_image_43 hl (k := 0) rfl (nI_1 k1) (by decide) rfl (fun ls hl => ?_)
            refine lv_goto (tgt := 18) hx hb dX12_image_46 (by decide) ?_
            exact ih1 (k1 + 1) f_10 _ _ _ (by omega) (by omega)  hP hD hS (lv_sub hl [0, 1, 2] rfl)
      exact LP1 (283 + 1) 0 (fun _ => 0) _ _ _ (by omega) (by omega)  hP hD hS hl
    · refine lv_iconst (v := 0) hx hb dX12_image_16 (by decide) ?_
      refine lv_istore_n (lv' := [(2, .int 0), (0, .ref (am 18)), (1, .int 1)]) hx hb dX12_image_17 rfl hl (by decide) rfl (fun ls hl => ?_)
      have LP3 : ∀ (n k3 : Nat) (g3_0 : Nat → Int32) (H : Heap) (locs : List Loc) (ls : Array Slot), k3 ≤ 283 → 283 < k3 + n → va_P D vwCl [(am 1, .inl (tm 1, 283, .inl (upd (fun _ => 0) 4 2))), (am 3, .inl (tm 3, 36, .inr (.inl (fun _ => 0)))), (am 15, .inl (tm 15, 566, .inl g3_0)), (am 16, .inl (tm 16, 36, .inr (.inl (fun _ => 0)))), (am 17, .inl (tm 17, 2, .inl (fun _ => 0))), (am 18, .inr (11, [.int 0, .ref u_1, .int u_2, .int u_3, .int u_4, .int u_5, .ref (am 1), .ref u_7, .ref u_8, .ref (am 3), .ref u_10, .int u_11, .int u_12, .int u_13, .int u_14, .int u_15, .int u_16, .long u_17, .int u_18, .int u_19, .int u_20, .ref u_21, .ref u_22, .int u_23, .int u_24, .int u_25, .int u_26, .ref u_27, .int u_28, .ref u_29, .int u_30, .int u_31, .ref u_32, .int u_33, .ref u_34, .ref u_35, .int u_36, .int u_37, .ref u_38, .int u_39, .int u_40, .int u_41, .ref u_42, .int u_43, .ref u_44, .int u_45, .int u_46, .int u_47, .int u_48, .int u_49, .ref u_50, .ref (am 15), .ref (am 16), .ref (am 17)]))] H → va_D A [(am 1, .inl (tm 1, 283, .inl (upd (fun _ => 0) 4 2))), (am 3, .inl (tm 3, 36, .inr (.inl (fun _ => 0)))), (am 15, .inl (tm 15, 566, .inl g3_0)), (am 16, .inl (tm 16, 36, .inr (.inl (fun _ => 0)))), (am 17, .inl (tm 17, 2, .inl (fun _ => 0))), (am 18, .inr (11, [.int 0, .ref u_1, .int u_2, .int u_3, .int u_4, .int u_5, .ref (am 1), .ref u_7, .ref u_8, .ref (am 3), .ref u_10, .int u_11, .int u_12, .int u_13, .int u_14, .int u_15, .int u_16, .long u_17, .int u_18, .int u_19, .int u_20, .ref u_21, .ref u_22, .int u_23, .int u_24, .int u_25, .int u_26, .ref u_27, .int u_28, .ref u_29, .int u_30, .int u_31, .ref u_32, .int u_33, .ref u_34, .ref u_35, .int u_36, .int u_37, .ref u_38, .int u_39, .int u_40, .int u_41, .ref u_42, .int u_43, .ref u_44, .int u_45, .int u_46, .int u_47, .int u_48, .int u_49, .ref u_50, .ref (am 15), .ref (am 16), .ref (am 17)]))] → va_S A s.heap H locs → lv_has ls 3 [(2, .int (nI k3)), (0, .ref (am 18)), (1, .int 1)] → W p l e ({ frames := 1, cells := 0, slots := 0, locals := 22 }) s m ([.ref (am 18), .int (nI 1)] : List Value).toArray below meth c H locs 0 0 Q (F0 m 18 ls []) := by
        intro n
        induction n with
        | zero => intro k3 g3_0 H locs ls h1 h2; exact absurd h2 (by omega)
        | succ n ih3 =>
          intro k3 g3_0 H locs ls hk3 hn3  hP hD hS hl
          refine lv_iload_n hx hb dX12_image_18 rfl (lv_at hl 0 rfl) ?_
          refine lv_sipush (v := 283) hx hb dX12_image_19 (by decide) ?_
          refine lv_icmp_ge (tgt := 49) hx hb dX12_image_22 (by decide) (fun c_11 => ?_) (fun c_11 => ?_)
          · have hek3 : k3 = 283 := by
              rcases Nat.lt_or_ge k3 283 with q | q
              · exact absurd c_11 (nI_ge q (by decide))
              · omega
            refine lv_iconst (v := 0) hx hb dX12_image_49 (by decide) ?_
            refine lv_istore_n (lv' := [(2, .int 0), (0, .ref (am 18)), (1, .int 1)]) hx hb dX12_image_50 rfl hl (by decide) rfl (fun ls hl => ?_)
            have LP4 : ∀ (n k4 : Nat) (g4_0 : Nat → Int64) (H : Heap) (locs : List Loc) (ls : Array Slot), k4 ≤ 18 → 18 < k4 + n → va_P D vwCl [(am 1, .inl (tm 1, 283, .inl (upd (fun _ => 0) 4 2))), (am 3, .inl (tm 3, 36, .inr (.inl (fun _ => 0)))), (am 15, .inl (tm 15, 566, .inl g3_0)), (am 16, .inl (tm 16, 36, .inr (.inl g4_0))), (am 17, .inl (tm 17, 2, .inl (fun _ => 0))), (am 18, .inr (11, [.int 0, .ref u_1, .int u_2, .int u_3, .int u_4, .int u_5, .ref (am 1), .ref u_7, .ref u_8, .ref (am 3), .ref u_10, .int u_11, .int u_12, .int u_13, .int u_14, .int u_15, .int u_16, .long u_17, .int u_18, .int u_19, .int u_20, .ref u_21, .ref u_22, .int u_23, .int u_24, .int u_25, .int u_26, .ref u_27, .int u_28, .ref u_29, .int u_30, .int u_31, .ref u_32, .int u_33, .ref u_34, .ref u_35, .int u_36, .int u_37, .ref u_38, .int u_39, .int u_40, .int u_41, .ref u_42, .int u_43, .ref u_44, .int u_45, .int u_46, .int u_47, .int u_48, .int u_49, .ref u_50, .ref (am 15), .ref (am 16), .ref (am 17)]))] H → va_D A [(am 1, .inl (tm 1, 283, .inl (upd (fun _ => 0) 4 2))), (am 3, .inl (tm 3, 36, .inr (.inl (fun _ => 0)))), (am 15, .inl (tm 15, 566, .inl g3_0)), (am 16, .inl (tm 16, 36, .inr (.inl g4_0))), (am 17, .inl (tm 17, 2, .inl (fun _ => 0))), (am 18, .inr (11, [.int 0, .ref u_1, .int u_2, .int u_3, .int u_4, .int u_5, .ref (am 1), .ref u_7, .ref u_8, .ref (am 3), .ref u_10, .int u_11, .int u_12, .int u_13, .int u_14, .int u_15, .int u_16, .long u_17, .int u_18, .int u_19, .int u_20, .ref u_21, .ref u_22, .int u_23, .int u_24, .int u_25, .int u_26, .ref u_27, .int u_28, .ref u_29, .int u_30, .int u_31, .ref u_32, .int u_33, .ref u_34, .ref u_35, .int u_36, .int u_37, .ref u_38, .int u_39, .int u_40, .int u_41, .ref u_42, .int u_43, .ref u_44, .int u_45, .int u_46, .int u_47, .int u_48, .int u_49, .ref u_50, .ref (am 15), .ref (am 16), .ref (am 17)]))] → va_S A s.heap H locs → lv_has ls 3 [(2, .int (nI k4)), (0, .ref (am 18)), (1, .int 1)] → W p l e ({ frames := 1, cells := 0, slots := 0, locals := 22 }) s m ([.ref (am 18), .int (nI 1)] : List Value).toArray below meth c H locs 0 0 Q (F0 m 51 ls []) := by
              intro n
              induction n with
              | zero => intro k4 g4_0 H locs ls h1 h2; exact absurd h2 (by omega)
              | succ n ih4 =>
                intro k4 g4_0 H locs ls hk4 hn4  hP hD hS hl
                refine lv_iload_n hx hb dX12_image_51 rfl (lv_at hl 0 rfl) ?_
                refine lv_bipush (v := 18) hx hb dX12_image_52 (by decide) ?_
                refine lv_icmp_ge (tgt := 80) hx hb dX12_image_54 (by decide) (fun c_12 => ?_) (fun c_12 => ?_)
                · have hek4 : k4 = 18 := by
                    rcases Nat.lt_or_ge k4 18 with q | q
                    · exact absurd c_12 (nI_ge q (by decide))
                    · omega
                  refine lv_aload_n hx hb dX12_image_80 rfl (lv_at hl 1 rfl) ?_
                  refine va_get (D := D) (ci := 11) (v := .ref (am 17)) (C := RX12) (T := TX12) (N := 54) hx hb hts hiX12 hown hK hP 5 rfl rfl 53 (by decide) (hts _ (List.mem_of_getElem? (i := 6) rfl)) (fun _ h9 => h9) rfl dX12_image_81 ?_
                  refine lv_iload_n hx hb dX12_image_84 rfl (lv_at hl 2 rfl) ?_
                  refine lv_iconst (v := 1) hx hb dX12_image_85 (by decide) ?_
                  refine va_zast hx hb hK hP hD hS 4 4 rfl rfl (show ¬ (_ ∨ _) by decide) dX12_image_86 (fun H locs hP hD hS => ?_)
                  have hP : va_P D vwCl [(am 1, .inl (tm 1, 283, .inl (upd (fun _ => 0) 4 2))), (am 3, .inl (tm 3, 36, .inr (.inl (fun _ => 0)))), (am 15, .inl (tm 15, 566, .inl g3_0)), (am 16, .inl (tm 16, 36, .inr (.inl g4_0))), (am 17, .inl (tm 17, 2, .inl (upd (fun _ => 0) 1 (vp_nar .boolean 1)))), (am 18, .inr (11, [.int 0, .ref u_1, .int u_2, .int u_3, .int u_4, .int u_5, .ref (am 1), .ref u_7, .ref u_8, .ref (am 3), .ref u_10, .int u_11, .int u_12, .int u_13, .int u_14, .int u_15, .int u_16, .long u_17, .int u_18, .int u_19, .int u_20, .ref u_21, .ref u_22, .int u_23, .int u_24, .int u_25, .int u_26, .ref u_27, .int u_28, .ref u_29, .int u_30, .int u_31, .ref u_32, .int u_33, .ref u_34, .ref u_35, .int u_36, .int u_37, .ref u_38, .int u_39, .int u_40, .int u_41, .ref u_42, .int u_43, .ref u_44, .int u_45, .int u_46, .int u_47, .int u_48, .int u_49, .ref u_50, .ref (am 15), .ref (am 16), .ref (am 17)]))] H := hP
                  have hD : va_D A [(am 1, .inl (tm 1, 283, .inl (upd (fun _ => 0) 4 2))), (am 3, .inl (tm 3, 36, .inr (.inl (fun _ => 0)))), (am 15, .inl (tm 15, 566, .inl g3_0)), (am 16, .inl (tm 16, 36, .inr (.inl g4_0))), (am 17, .inl (tm 17, 2, .inl (upd (fun _ => 0) 1 (vp_nar .boolean 1)))), (am 18, .inr (11, [.int 0, .ref u_1, .int u_2, .int u_3, .int u_4, .int u_5, .ref (am 1), .ref u_7, .ref u_8, .ref (am 3), .ref u_10, .int u_11, .int u_12, .int u_13, .int u_14, .int u_15, .int u_16, .long u_17, .int u_18, .int u_19, .int u_20, .ref u_21, .ref u_22, .int u_23, .int u_24, .int u_25, .int u_26, .ref u_27, .int u_28, .ref u_29, .int u_30, .int u_31, .ref u_32, .int u_33, .ref u_34, .ref u_35, .int u_36, .int u_37, .ref u_38, .int u_39, .int u_40, .int u_41, .ref u_42, .int u_43, .ref u_44, .int u_45, .int u_46, .int u_47, .int u_48, .int u_49, .ref u_50, .ref (am 15), .ref (am 16), .ref (am 17)]))] := hD
                  refine lv_iconst (v := 1) hx hb dX12_image_87 (by decide) ?_
                  refine W.widen (k := 0) (n := 0) (by decide) (by decide) ?_
                  exact hret 1 ([], []) _ _ _ _ dX12_image_88 (by decide) ⟨by unfold s_X12_image; rw [if_neg c_1], rfl⟩ (hP.sub [] rfl) (hK.sub [] rfl) (hD.sub [] (by decide +kernel) rfl) hS
                · have hlt4 : k4 < 18 := by
                    rcases Nat.lt_or_ge k4 18 with q | q
                    · exact q
                    · exact absurd (nI_le q (by omega)) c_12
                  refine lv_aload_n hx hb dX12_image_57 rfl (lv_at hl 1 rfl) ?_
                  refine va_get (D := D) (ci := 11) (v := .ref (am 16)) (C := RX12) (T := TX12) (N := 54) hx hb hts hiX12 hown hK hP 5 rfl rfl 52 (by decide) (hts _ (List.mem_of_getElem? (i := 4) rfl)) (fun _ h9 => h9) rfl dX12_image_58 ?_
                  refine lv_bipush (v := 18) hx hb dX12_image_61 (by decide) ?_
                  refine lv_iload_n hx hb dX12_image_63 rfl (lv_at hl 2 rfl) ?_
                  refine lv_imul hx hb dX12_image_64 ?_
                  refine lv_topi (fun y_13 ey_13 => ?_)
                  obtain rfl : y_13 = 18 := ey_13.trans (by decide)
                  refine lv_iload_n hx hb dX12_image_65 rfl (lv_at hl 0 rfl) ?_
                  refine lv_iadd hx hb dX12_image_66 ?_
                  refine lv_topi (fun y_14 ey_14 => ?_)
                  obtain rfl : y_14 = nI (18 + k4) := ey_14.trans (nI_add 18 k4)
                  refine lv_aload_n hx hb dX12_image_67 rfl (lv_at hl 1 rfl) ?_
                  refine va_get (D := D) (ci := 11) (v := .ref (am 3)) (C := RX12) (T := TX12) (N := 54) hx hb hts hiX12 hown hK hP 5 rfl rfl 9 (by decide) (hts _ (List.mem_of_getElem? (i := 5) rfl)) (fun _ h9 => h9) rfl dX12_image_68 ?_
                  refine lv_iload_n hx hb dX12_image_71 rfl (lv_at hl 0 rfl) ?_
                  refine va_lald hx hb hK hP 1 1 rfl rfl (vp_in_nI (show k4 < 36 by omega) (by decide)) dX12_image_72 ?_
                  refine W.eq (g2 := F0 m 73 ls (.long 0 :: [.int (nI (18 + k4)), .ref (am 16)])) rfl ?_
                  refine va_last hx hb hK hP hD hS 3 3 rfl rfl (vp_in_nI (show (18 + k4) < 36 by omega) (by decide)) dX12_image_73 (fun H locs hP hD hS => ?_)
                  rw [nI_clamp (show (18 + k4) < 2 ^ 31 by omega)] at hP hD
                  have hP : va_P D vwCl [(am 1, .inl (tm 1, 283, .inl (upd (fun _ => 0) 4 2))), (am 3, .inl (tm 3, 36, .inr (.inl (fun _ => 0)))), (am 15, .inl (tm 15, 566, .inl g3_0)), (am 16, .inl (tm 16, 36, .inr (.inl (vp_updL g4_0 (18 + k4) 0)))), (am 17, .inl (tm 17, 2, .inl (fun _ => 0))), (am 18, .inr (11, [.int 0, .ref u_1, .int u_2, .int u_3, .int u_4, .int u_5, .ref (am 1), .ref u_7, .ref u_8, .ref (am 3), .ref u_10, .int u_11, .int u_12, .int u_13, .int u_14, .int u_15, .int u_16, .long u_17, .int u_18, .int u_19, .int u_20, .ref u_21, .ref u_22, .int u_23, .int u_24, .int u_25, .int u_26, .ref u_27, .int u_28, .ref u_29, .int u_30, .int u_31, .ref u_32, .int u_33, .ref u_34, .ref u_35, .int u_36, .int u_37, .ref u_38, .int u_39, .int u_40, .int u_41, .ref u_42, .int u_43, .ref u_44, .int u_45, .int u_46, .int u_47, .int u_48, .int u_49, .ref u_50, .ref (am 15), .ref (am 16), .ref (am 17)]))] H := hP
                  have hD : va_D A [(am 1, .inl (tm 1, 283, .inl (upd (fun _ => 0) 4 2))), (am 3, .inl (tm 3, 36, .inr (.inl (fun _ => 0)))), (am 15, .inl (tm 15, 566, .inl g3_0)), (am 16, .inl (tm 16, 36, .inr (.inl (vp_updL g4_0 (18 + k4) 0)))), (am 17, .inl (tm 17, 2, .inl (fun _ => 0))), (am 18, .inr (11, [.int 0, .ref u_1, .int u_2, .int u_3, .int u_4, .int u_5, .ref (am 1), .ref u_7, .ref u_8, .ref (am 3), .ref u_10, .int u_11, .int u_12, .int u_13, .int u_14, .int u_15, .int u_16, .long u_17, .int u_18, .int u_19, .int u_20, .ref u_21, .ref u_22, .int u_23, .int u_24, .int u_25, .int u_26, .ref u_27, .int u_28, .ref u_29, .int u_30, .int u_31, .ref u_32, .int u_33, .ref u_34, .ref u_35, .int u_36, .int u_37, .ref u_38, .int u_39, .int u_40, .int u_41, .ref u_42, .int u_43, .ref u_44, .int u_45, .int u_46, .int u_47, .int u_48, .int u_49, .ref u_50, .ref (am 15), .ref (am 16), .ref (am 17)]))] := hD
                  generalize (vp_updL g4_0 (18 + k4) 0) = f_15 at hP hD
                  refine lv_iinc (v := nI (k4 + 1)) (lv' := [(2, .int (nI (k4 + 1))), (0, .ref (am 18)), (1, .int 1)]) hx hb dX12_image_74 hl (k := 0) rfl (nI_1 k4) (by decide) rfl (fun ls hl => ?_)
                  refine lv_goto (tgt := 51) hx hb dX12_image_77 (by decide) ?_
                  exact ih4 (k4 + 1) f_15 _ _ _ (by omega) (by omega)  hP hD hS (lv_sub hl [0, 1, 2] rfl)
            exact LP4 (18 + 1) 0 (fun _ => 0) _ _ _ (by omega) (by omega)  hP hD hS hl
          · have hlt3 : k3 < 283 := by
              rcases Nat.lt_or_ge k3 283 with q | q
              · exact q
              · exact absurd (nI_le q (by omega)) c_11
            refine lv_aload_n hx hb dX12_image_25 rfl (lv_at hl 1 rfl) ?_
            refine va_get (D := D) (ci := 11) (v := .ref (am 15)) (C := RX12) (T := TX12) (N := 54) hx hb hts hiX12 hown hK hP 5 rfl rfl 51 (by decide) (hts _ (List.mem_of_getElem? (i := 2) rfl)) (fun _ h9 => h9) rfl dX12_image_26 ?_
            refine lv_sipush (v := 283) hx hb dX12_image_29 (by decide) ?_
            refine lv_iload_n hx hb dX12_image_32 rfl (lv_at hl 2 rfl) ?_
            refine lv_imul hx hb dX12_image_33 ?_
            refine lv_topi (fun y_16 ey_16 => ?_)
            obtain rfl : y_16 = 283 := ey_16.trans (by decide)
            refine lv_iload_n hx hb dX12_image_34 rfl (lv_at hl 0 rfl) ?_
            refine lv_iadd hx hb dX12_image_35 ?_
            refine lv_topi (fun y_17 ey_17 => ?_)
            obtain rfl : y_17 = nI (283 + k3) := ey_17.trans (nI_add 283 k3)
            refine lv_aload_n hx hb dX12_image_36 rfl (lv_at hl 1 rfl) ?_
            refine va_get (D := D) (ci := 11) (v := .ref (am 1)) (C := RX12) (T := TX12) (N := 54) hx hb hts hiX12 hown hK hP 5 rfl rfl 6 (by decide) (hts _ (List.mem_of_getElem? (i := 3) rfl)) (fun _ h9 => h9) rfl dX12_image_37 ?_
            refine lv_iload_n hx hb dX12_image_40 rfl (lv_at hl 0 rfl) ?_
            refine va_iald hx hb hK hP 0 0 rfl rfl (vp_in_nI (show k3 < 283 by omega) (by decide)) dX12_image_41 ?_
            refine lv_topi (fun y_18 ey_18 => ?_)
            refine va_iast hx hb hK hP hD hS 2 2 rfl rfl (vp_in_nI (show (283 + k3) < 566 by omega) (by decide)) dX12_image_42 (fun H locs hP hD hS => ?_)
            rw [nI_clamp (show (283 + k3) < 2 ^ 31 by omega)] at hP hD
            have hP : va_P D vwCl [(am 1, .inl (tm 1, 283, .inl (upd (fun _ => 0) 4 2))), (am 3, .inl (tm 3, 36, .inr (.inl (fun _ => 0)))), (am 15, .inl (tm 15, 566, .inl (upd g3_0 (283 + k3) y_18))), (am 16, .inl (tm 16, 36, .inr (.inl (fun _ => 0)))), (am 17, .inl (tm 17, 2, .inl (fun _ => 0))), (am 18, .inr (11, [.int 0, .ref u_1, .int u_2, .int u_3, .int u_4, .int u_5, .ref (am 1), .ref u_7, .ref u_8, .ref (am 3), .ref u_10, .int u_11, .int u_12, .int u_13, .int u_14, .int u_15, .int u_16, .long u_17, .int u_18, .int u_19, .int u_20, .ref u_21, .ref u_22, .int u_23, .int u_24, .int u_25, .int u_26, .ref u_27, .int u_28, .ref u_29, .int u_30, .int u_31, .ref u_32, .int u_33, .ref u_34, .ref u_35, .int u_36, .int u_37, .ref u_38, .int u_39, .int u_40, .int u_41, .ref u_42, .int u_43, .ref u_44, .int u_45, .int u_46, .int u_47, .int u_48, .int u_49, .ref u_50, .ref (am 15), .ref (am 16), .ref (am 17)]))] H := hP
            have hD : va_D A [(am 1, .inl (tm 1, 283, .inl (upd (fun _ => 0) 4 2))), (am 3, .inl (tm 3, 36, .inr (.inl (fun _ => 0)))), (am 15, .inl (tm 15, 566, .inl (upd g3_0 (283 + k3) y_18))), (am 16, .inl (tm 16, 36, .inr (.inl (fun _ => 0)))), (am 17, .inl (tm 17, 2, .inl (fun _ => 0))), (am 18, .inr (11, [.int 0, .ref u_1, .int u_2, .int u_3, .int u_4, .int u_5, .ref (am 1), .ref u_7, .ref u_8, .ref (am 3), .ref u_10, .int u_11, .int u_12, .int u_13, .int u_14, .int u_15, .int u_16, .long u_17, .int u_18, .int u_19, .int u_20, .ref u_21, .ref u_22, .int u_23, .int u_24, .int u_25, .int u_26, .ref u_27, .int u_28, .ref u_29, .int u_30, .int u_31, .ref u_32, .int u_33, .ref u_34, .ref u_35, .int u_36, .int u_37, .ref u_38, .int u_39, .int u_40, .int u_41, .ref u_42, .int u_43, .ref u_44, .int u_45, .int u_46, .int u_47, .int u_48, .int u_49, .ref u_50, .ref (am 15), .ref (am 16), .ref (am 17)]))] := hD
            generalize (upd g3_0 (283 + k3) y_18) = f_19 at hP hD
            refine lv_iinc (v := nI (k3 + 1)) (lv' := [(2, .int (nI (k3 + 1))), (0, .ref (am 18)), (1, .int 1)]) hx hb dX12_image_43 hl (k := 0) rfl (nI_1 k3) (by decide) rfl (fun ls hl => ?_)
            refine lv_goto (tgt := 18) hx hb dX12_image_46 (by decide) ?_
            exact ih3 (k3 + 1) f_19 _ _ _ (by omega) (by omega)  hP hD hS (lv_sub hl [0, 1, 2] rfl)
      exact LP3 (283 + 1) 0 (fun _ => 0) _ _ _ (by omega) (by omega)  hP hD hS hl
  · refine lv_iconst (v := 0) hx hb dX12_image_14 (by decide) ?_
    refine W.widen (k := 0) (n := 0) (by decide) (by decide) ?_
    exact hret 0 ([], []) _ _ _ _ dX12_image_15 (by decide) ⟨by unfold s_X12_image; rw [if_pos c_1], rfl⟩ (hP.sub [] rfl) (hK.sub [] rfl) (hD.sub [] (by decide +kernel) rfl) hS
