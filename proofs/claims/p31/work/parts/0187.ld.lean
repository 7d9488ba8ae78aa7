theorem dL_feeds_0 : decode cL_feeds 0 = .ok (.iconst 0, 1) := by decide +kernel
theorem dL_feeds_1 : decode cL_feeds 1 = .ok (.istore_n 2, 1) := by decide +kernel
theorem dL_feeds_2 : decode cL_feeds 2 = .ok (.iconst 0, 1) := by decide +kernel
theorem dL_feeds_3 : decode cL_feeds 3 = .ok (.istore_n 3, 1) := by decide +kernel
theorem dL_feeds_4 : decode cL_feeds 4 = .ok (.iload_n 3, 1) := by decide +kernel
theorem dL_feeds_5 : decode cL_feeds 5 = .ok (.aload_n 1, 1) := by decide +kernel
theorem dL_feeds_6 : decode cL_feeds 6 = .ok (.invokevirtual 7, 3) := by decide +kernel
theorem dL_feeds_9 : decode cL_feeds 9 = .ok (.if_icmp .ge 105, 3) := by decide +kernel
theorem dL_feeds_12 : decode cL_feeds 12 = .ok (.iconst 5, 1) := by decide +kernel
theorem dL_feeds_13 : decode cL_feeds 13 = .ok (.newarray .int, 2) := by decide +kernel
theorem dL_feeds_15 : decode cL_feeds 15 = .ok (.astore 4, 2) := by decide +kernel
theorem dL_feeds_17 : decode cL_feeds 17 = .ok (.iconst 0, 1) := by decide +kernel
theorem dL_feeds_18 : decode cL_feeds 18 = .ok (.istore 5, 2) := by decide +kernel
theorem dL_feeds_20 : decode cL_feeds 20 = .ok (.iload 5, 2) := by decide +kernel
theorem dL_feeds_22 : decode cL_feeds 22 = .ok (.bipush 20, 2) := by decide +kernel
theorem dL_feeds_24 : decode cL_feeds 24 = .ok (.if_icmp .ge 51, 3) := by decide +kernel
theorem dL_feeds_27 : decode cL_feeds 27 = .ok (.aload 4, 2) := by decide +kernel
theorem dL_feeds_29 : decode cL_feeds 29 = .ok (.iload 5, 2) := by decide +kernel
theorem dL_feeds_31 : decode cL_feeds 31 = .ok (.iconst 4, 1) := by decide +kernel
theorem dL_feeds_32 : decode cL_feeds 32 = .ok (.idiv, 1) := by decide +kernel
theorem dL_feeds_33 : decode cL_feeds 33 = .ok (.aload 4, 2) := by decide +kernel
theorem dL_feeds_35 : decode cL_feeds 35 = .ok (.iload 5, 2) := by decide +kernel
theorem dL_feeds_37 : decode cL_feeds 37 = .ok (.iconst 4, 1) := by decide +kernel
theorem dL_feeds_38 : decode cL_feeds 38 = .ok (.idiv, 1) := by decide +kernel
theorem dL_feeds_39 : decode cL_feeds 39 = .ok (.iaload, 1) := by decide +kernel
theorem dL_feeds_40 : decode cL_feeds 40 = .ok (.bipush 8, 2) := by decide +kernel
theorem dL_feeds_42 : decode cL_feeds 42 = .ok (.ishl, 1) := by decide +kernel
theorem dL_feeds_43 : decode cL_feeds 43 = .ok (.iload_n 3, 1) := by decide +kernel
theorem dL_feeds_44 : decode cL_feeds 44 = .ok (.iload 5, 2) := by decide +kernel
theorem dL_feeds_46 : decode cL_feeds 46 = .ok (.iadd, 1) := by decide +kernel
theorem dL_feeds_47 : decode cL_feeds 47 = .ok (.aload_n 1, 1) := by decide +kernel
theorem dL_feeds_48 : decode cL_feeds 48 = .ok (.invokevirtual 7, 3) := by decide +kernel
theorem dL_feeds_51 : decode cL_feeds 51 = .ok (.if_icmp .ge 14, 3) := by decide +kernel
theorem dL_feeds_54 : decode cL_feeds 54 = .ok (.aload_n 1, 1) := by decide +kernel
theorem dL_feeds_55 : decode cL_feeds 55 = .ok (.iload_n 3, 1) := by decide +kernel
theorem dL_feeds_56 : decode cL_feeds 56 = .ok (.iload 5, 2) := by decide +kernel
theorem dL_feeds_58 : decode cL_feeds 58 = .ok (.iadd, 1) := by decide +kernel
theorem dL_feeds_59 : decode cL_feeds 59 = .ok (.invokevirtual 13, 3) := by decide +kernel
theorem dL_feeds_62 : decode cL_feeds 62 = .ok (.goto 5, 3) := by decide +kernel
theorem dL_feeds_65 : decode cL_feeds 65 = .ok (.bipush 32, 2) := by decide +kernel
theorem dL_feeds_67 : decode cL_feeds 67 = .ok (.ior, 1) := by decide +kernel
theorem dL_feeds_68 : decode cL_feeds 68 = .ok (.iastore, 1) := by decide +kernel
theorem dL_feeds_69 : decode cL_feeds 69 = .ok (.iinc 5 1, 3) := by decide +kernel
theorem dL_feeds_72 : decode cL_feeds 72 = .ok (.goto (-52), 3) := by decide +kernel
theorem dL_feeds_75 : decode cL_feeds 75 = .ok (.iinc 2 20, 3) := by decide +kernel
theorem dL_feeds_78 : decode cL_feeds 78 = .ok (.aload_n 0, 1) := by decide +kernel
theorem dL_feeds_79 : decode cL_feeds 79 = .ok (.aload 4, 2) := by decide +kernel
theorem dL_feeds_81 : decode cL_feeds 81 = .ok (.iconst 0, 1) := by decide +kernel
theorem dL_feeds_82 : decode cL_feeds 82 = .ok (.iaload, 1) := by decide +kernel
theorem dL_feeds_83 : decode cL_feeds 83 = .ok (.aload 4, 2) := by decide +kernel
theorem dL_feeds_85 : decode cL_feeds 85 = .ok (.iconst 1, 1) := by decide +kernel
theorem dL_feeds_86 : decode cL_feeds 86 = .ok (.iaload, 1) := by decide +kernel
theorem dL_feeds_87 : decode cL_feeds 87 = .ok (.aload 4, 2) := by decide +kernel
theorem dL_feeds_89 : decode cL_feeds 89 = .ok (.iconst 2, 1) := by decide +kernel
theorem dL_feeds_90 : decode cL_feeds 90 = .ok (.iaload, 1) := by decide +kernel
theorem dL_feeds_91 : decode cL_feeds 91 = .ok (.aload 4, 2) := by decide +kernel
theorem dL_feeds_93 : decode cL_feeds 93 = .ok (.iconst 3, 1) := by decide +kernel
theorem dL_feeds_94 : decode cL_feeds 94 = .ok (.iaload, 1) := by decide +kernel
theorem dL_feeds_95 : decode cL_feeds 95 = .ok (.aload 4, 2) := by decide +kernel
theorem dL_feeds_97 : decode cL_feeds 97 = .ok (.iconst 4, 1) := by decide +kernel
theorem dL_feeds_98 : decode cL_feeds 98 = .ok (.iaload, 1) := by decide +kernel
theorem dL_feeds_99 : decode cL_feeds 99 = .ok (.invokevirtual 17, 3) := by decide +kernel
theorem dL_feeds_102 : decode cL_feeds 102 = .ok (.iload_n 2, 1) := by decide +kernel
theorem dL_feeds_103 : decode cL_feeds 103 = .ok (.if_icmp .eq 5, 3) := by decide +kernel
theorem dL_feeds_106 : decode cL_feeds 106 = .ok (.iconst 0, 1) := by decide +kernel
theorem dL_feeds_107 : decode cL_feeds 107 = .ok (.ireturn, 1) := by decide +kernel
theorem dL_feeds_108 : decode cL_feeds 108 = .ok (.iinc 3 20, 3) := by decide +kernel
theorem dL_feeds_111 : decode cL_feeds 111 = .ok (.goto (-107), 3) := by decide +kernel
theorem dL_feeds_114 : decode cL_feeds 114 = .ok (.iconst 1, 1) := by decide +kernel
theorem dL_feeds_115 : decode cL_feeds 115 = .ok (.ireturn, 1) := by decide +kernel
theorem dL_draw_0 : decode cL_draw 0 = .ok (.aload_n 0, 1) := by decide +kernel
theorem dL_draw_1 : decode cL_draw 1 = .ok (.iconst 0, 1) := by decide +kernel
theorem dL_draw_2 : decode cL_draw 2 = .ok (.aload_n 0, 1) := by decide +kernel
theorem dL_draw_3 : decode cL_draw 3 = .ok (.iconst 0, 1) := by decide +kernel
theorem dL_draw_4 : decode cL_draw 4 = .ok (.iaload, 1) := by decide +kernel
theorem dL_draw_5 : decode cL_draw 5 = .ok (.ldc 23, 2) := by decide +kernel
theorem dL_draw_7 : decode cL_draw 7 = .ok (.imul, 1) := by decide +kernel
theorem dL_draw_8 : decode cL_draw 8 = .ok (.ldc 24, 2) := by decide +kernel
theorem dL_draw_10 : decode cL_draw 10 = .ok (.iadd, 1) := by decide +kernel
theorem dL_draw_11 : decode cL_draw 11 = .ok (.iastore, 1) := by decide +kernel
theorem dL_draw_12 : decode cL_draw 12 = .ok (.aload_n 0, 1) := by decide +kernel
theorem dL_draw_13 : decode cL_draw 13 = .ok (.iconst 0, 1) := by decide +kernel
theorem dL_draw_14 : decode cL_draw 14 = .ok (.iaload, 1) := by decide +kernel
theorem dL_draw_15 : decode cL_draw 15 = .ok (.bipush 8, 2) := by decide +kernel
theorem dL_draw_17 : decode cL_draw 17 = .ok (.iushr, 1) := by decide +kernel
theorem dL_draw_18 : decode cL_draw 18 = .ok (.iload_n 1, 1) := by decide +kernel
theorem dL_draw_19 : decode cL_draw 19 = .ok (.irem, 1) := by decide +kernel
theorem dL_draw_20 : decode cL_draw 20 = .ok (.ireturn, 1) := by decide +kernel
theorem dL_net_0 : decode cL_net 0 = .ok (.new 32, 3) := by decide +kernel
theorem dL_net_3 : decode cL_net 3 = .ok (.dup, 1) := by decide +kernel
theorem dL_net_4 : decode cL_net 4 = .ok (.invokespecial 34, 3) := by decide +kernel
theorem dL_net_7 : decode cL_net 7 = .ok (.astore_n 2, 1) := by decide +kernel
theorem dL_net_8 : decode cL_net 8 = .ok (.aload_n 2, 1) := by decide +kernel
theorem dL_net_9 : decode cL_net 9 = .ok (.iconst 2, 1) := by decide +kernel
theorem dL_net_10 : decode cL_net 10 = .ok (.aload_n 1, 1) := by decide +kernel
theorem dL_net_11 : decode cL_net 11 = .ok (.bipush 7, 2) := by decide +kernel
theorem dL_net_13 : decode cL_net 13 = .ok (.invokestatic 35, 3) := by decide +kernel
theorem dL_net_16 : decode cL_net 16 = .ok (.iadd, 1) := by decide +kernel
theorem dL_net_17 : decode cL_net 17 = .ok (.putfield 39, 3) := by decide +kernel
theorem dL_net_20 : decode cL_net 20 = .ok (.iconst 0, 1) := by decide +kernel
theorem dL_net_21 : decode cL_net 21 = .ok (.istore_n 3, 1) := by decide +kernel
theorem dL_net_22 : decode cL_net 22 = .ok (.iload_n 3, 1) := by decide +kernel
theorem dL_net_23 : decode cL_net 23 = .ok (.aload_n 2, 1) := by decide +kernel
theorem dL_net_24 : decode cL_net 24 = .ok (.getfield 39, 3) := by decide +kernel
theorem dL_net_27 : decode cL_net 27 = .ok (.if_icmp .ge 95, 3) := by decide +kernel
theorem dL_net_30 : decode cL_net 30 = .ok (.aload_n 2, 1) := by decide +kernel
theorem dL_net_31 : decode cL_net 31 = .ok (.getfield 43, 3) := by decide +kernel
theorem dL_net_34 : decode cL_net 34 = .ok (.iload_n 3, 1) := by decide +kernel
theorem dL_net_35 : decode cL_net 35 = .ok (.new 47, 3) := by decide +kernel
theorem dL_net_38 : decode cL_net 38 = .ok (.dup, 1) := by decide +kernel
theorem dL_net_39 : decode cL_net 39 = .ok (.invokespecial 49, 3) := by decide +kernel
theorem dL_net_42 : decode cL_net 42 = .ok (.aastore, 1) := by decide +kernel
theorem dL_net_43 : decode cL_net 43 = .ok (.aload_n 2, 1) := by decide +kernel
theorem dL_net_44 : decode cL_net 44 = .ok (.getfield 43, 3) := by decide +kernel
theorem dL_net_47 : decode cL_net 47 = .ok (.iload_n 3, 1) := by decide +kernel
theorem dL_net_48 : decode cL_net 48 = .ok (.aaload, 1) := by decide +kernel
theorem dL_net_49 : decode cL_net 49 = .ok (.aload_n 1, 1) := by decide +kernel
theorem dL_net_50 : decode cL_net 50 = .ok (.sipush 200, 3) := by decide +kernel
theorem dL_net_53 : decode cL_net 53 = .ok (.invokestatic 35, 3) := by decide +kernel
theorem dL_net_56 : decode cL_net 56 = .ok (.putfield 50, 3) := by decide +kernel
theorem dL_net_59 : decode cL_net 59 = .ok (.aload_n 2, 1) := by decide +kernel
theorem dL_net_60 : decode cL_net 60 = .ok (.getfield 43, 3) := by decide +kernel
theorem dL_net_63 : decode cL_net 63 = .ok (.iload_n 3, 1) := by decide +kernel
theorem dL_net_64 : decode cL_net 64 = .ok (.aaload, 1) := by decide +kernel
theorem dL_net_65 : decode cL_net 65 = .ok (.aload_n 1, 1) := by decide +kernel
theorem dL_net_66 : decode cL_net 66 = .ok (.sipush 200, 3) := by decide +kernel
theorem dL_net_69 : decode cL_net 69 = .ok (.invokestatic 35, 3) := by decide +kernel
theorem dL_net_72 : decode cL_net 72 = .ok (.putfield 53, 3) := by decide +kernel
theorem dL_net_75 : decode cL_net 75 = .ok (.aload_n 0, 1) := by decide +kernel
theorem dL_net_76 : decode cL_net 76 = .ok (.ldc 56, 2) := by decide +kernel
theorem dL_net_78 : decode cL_net 78 = .ok (.invokevirtual 58, 3) := by decide +kernel
theorem dL_net_81 : decode cL_net 81 = .ok (.aload_n 2, 1) := by decide +kernel
theorem dL_net_82 : decode cL_net 82 = .ok (.getfield 43, 3) := by decide +kernel
theorem dL_net_85 : decode cL_net 85 = .ok (.iload_n 3, 1) := by decide +kernel
theorem dL_net_86 : decode cL_net 86 = .ok (.aaload, 1) := by decide +kernel
theorem dL_net_87 : decode cL_net 87 = .ok (.getfield 50, 3) := by decide +kernel
theorem dL_net_90 : decode cL_net 90 = .ok (.invokevirtual 63, 3) := by decide +kernel
theorem dL_net_93 : decode cL_net 93 = .ok (.bipush 32, 2) := by decide +kernel
theorem dL_net_95 : decode cL_net 95 = .ok (.invokevirtual 66, 3) := by decide +kernel
theorem dL_net_98 : decode cL_net 98 = .ok (.aload_n 2, 1) := by decide +kernel
theorem dL_net_99 : decode cL_net 99 = .ok (.getfield 43, 3) := by decide +kernel
theorem dL_net_102 : decode cL_net 102 = .ok (.iload_n 3, 1) := by decide +kernel
theorem dL_net_103 : decode cL_net 103 = .ok (.aaload, 1) := by decide +kernel
theorem dL_net_104 : decode cL_net 104 = .ok (.getfield 53, 3) := by decide +kernel
theorem dL_net_107 : decode cL_net 107 = .ok (.invokevirtual 63, 3) := by decide +kernel
theorem dL_net_110 : decode cL_net 110 = .ok (.bipush 59, 2) := by decide +kernel
theorem dL_net_112 : decode cL_net 112 = .ok (.invokevirtual 66, 3) := by decide +kernel
theorem dL_net_115 : decode cL_net 115 = .ok (.pop, 1) := by decide +kernel
theorem dL_net_116 : decode cL_net 116 = .ok (.iinc 3 1, 3) := by decide +kernel
theorem dL_net_119 : decode cL_net 119 = .ok (.goto (-97), 3) := by decide +kernel
theorem dL_net_122 : decode cL_net 122 = .ok (.aload_n 2, 1) := by decide +kernel
theorem dL_net_123 : decode cL_net 123 = .ok (.aload_n 1, 1) := by decide +kernel
theorem dL_net_124 : decode cL_net 124 = .ok (.bipush 100, 2) := by decide +kernel
theorem dL_net_126 : decode cL_net 126 = .ok (.invokestatic 35, 3) := by decide +kernel
theorem dL_net_129 : decode cL_net 129 = .ok (.putfield 69, 3) := by decide +kernel
theorem dL_net_132 : decode cL_net 132 = .ok (.aload_n 2, 1) := by decide +kernel
theorem dL_net_133 : decode cL_net 133 = .ok (.aload_n 1, 1) := by decide +kernel
theorem dL_net_134 : decode cL_net 134 = .ok (.bipush 100, 2) := by decide +kernel
theorem dL_net_136 : decode cL_net 136 = .ok (.invokestatic 35, 3) := by decide +kernel
theorem dL_net_139 : decode cL_net 139 = .ok (.putfield 72, 3) := by decide +kernel
theorem dL_net_142 : decode cL_net 142 = .ok (.aload_n 2, 1) := by decide +kernel
theorem dL_net_143 : decode cL_net 143 = .ok (.iconst 1, 1) := by decide +kernel
theorem dL_net_144 : decode cL_net 144 = .ok (.aload_n 1, 1) := by decide +kernel
theorem dL_net_145 : decode cL_net 145 = .ok (.iconst 4, 1) := by decide +kernel
theorem dL_net_146 : decode cL_net 146 = .ok (.invokestatic 35, 3) := by decide +kernel
theorem dL_net_149 : decode cL_net 149 = .ok (.iadd, 1) := by decide +kernel
theorem dL_net_150 : decode cL_net 150 = .ok (.putfield 75, 3) := by decide +kernel
theorem dL_net_153 : decode cL_net 153 = .ok (.aload_n 2, 1) := by decide +kernel
theorem dL_net_154 : decode cL_net 154 = .ok (.iconst 1, 1) := by decide +kernel
theorem dL_net_155 : decode cL_net 155 = .ok (.aload_n 1, 1) := by decide +kernel
theorem dL_net_156 : decode cL_net 156 = .ok (.iconst 4, 1) := by decide +kernel
theorem dL_net_157 : decode cL_net 157 = .ok (.invokestatic 35, 3) := by decide +kernel
theorem dL_net_160 : decode cL_net 160 = .ok (.iadd, 1) := by decide +kernel
theorem dL_net_161 : decode cL_net 161 = .ok (.putfield 78, 3) := by decide +kernel
theorem dL_net_164 : decode cL_net 164 = .ok (.aload_n 2, 1) := by decide +kernel
theorem dL_net_165 : decode cL_net 165 = .ok (.iconst 1, 1) := by decide +kernel
theorem dL_net_166 : decode cL_net 166 = .ok (.aload_n 1, 1) := by decide +kernel
theorem dL_net_167 : decode cL_net 167 = .ok (.bipush 60, 2) := by decide +kernel
theorem dL_net_169 : decode cL_net 169 = .ok (.invokestatic 35, 3) := by decide +kernel
theorem dL_net_172 : decode cL_net 172 = .ok (.iadd, 1) := by decide +kernel
theorem dL_net_173 : decode cL_net 173 = .ok (.putfield 81, 3) := by decide +kernel
theorem dL_net_176 : decode cL_net 176 = .ok (.aload_n 2, 1) := by decide +kernel
theorem dL_net_177 : decode cL_net 177 = .ok (.iconst 1, 1) := by decide +kernel
theorem dL_net_178 : decode cL_net 178 = .ok (.aload_n 1, 1) := by decide +kernel
theorem dL_net_179 : decode cL_net 179 = .ok (.sipush 400, 3) := by decide +kernel
theorem dL_net_182 : decode cL_net 182 = .ok (.invokestatic 35, 3) := by decide +kernel
theorem dL_net_185 : decode cL_net 185 = .ok (.iadd, 1) := by decide +kernel
theorem dL_net_186 : decode cL_net 186 = .ok (.putfield 84, 3) := by decide +kernel
theorem dL_net_189 : decode cL_net 189 = .ok (.aload_n 2, 1) := by decide +kernel
theorem dL_net_190 : decode cL_net 190 = .ok (.iconst 1, 1) := by decide +kernel
theorem dL_net_191 : decode cL_net 191 = .ok (.aload_n 1, 1) := by decide +kernel
theorem dL_net_192 : decode cL_net 192 = .ok (.iconst 4, 1) := by decide +kernel
theorem dL_net_193 : decode cL_net 193 = .ok (.invokestatic 35, 3) := by decide +kernel
theorem dL_net_196 : decode cL_net 196 = .ok (.iadd, 1) := by decide +kernel
theorem dL_net_197 : decode cL_net 197 = .ok (.putfield 87, 3) := by decide +kernel
theorem dL_net_200 : decode cL_net 200 = .ok (.aload_n 2, 1) := by decide +kernel
theorem dL_net_201 : decode cL_net 201 = .ok (.aload_n 2, 1) := by decide +kernel
theorem dL_net_202 : decode cL_net 202 = .ok (.getfield 87, 3) := by decide +kernel
theorem dL_net_205 : decode cL_net 205 = .ok (.aload_n 1, 1) := by decide +kernel
theorem dL_net_206 : decode cL_net 206 = .ok (.bipush 8, 2) := by decide +kernel
theorem dL_net_208 : decode cL_net 208 = .ok (.invokestatic 35, 3) := by decide +kernel
theorem dL_net_211 : decode cL_net 211 = .ok (.iadd, 1) := by decide +kernel
theorem dL_net_212 : decode cL_net 212 = .ok (.putfield 90, 3) := by decide +kernel
theorem dL_net_215 : decode cL_net 215 = .ok (.aload_n 2, 1) := by decide +kernel
theorem dL_net_216 : decode cL_net 216 = .ok (.bipush 50, 2) := by decide +kernel
theorem dL_net_218 : decode cL_net 218 = .ok (.aload_n 1, 1) := by decide +kernel
theorem dL_net_219 : decode cL_net 219 = .ok (.sipush 250, 3) := by decide +kernel
theorem dL_net_222 : decode cL_net 222 = .ok (.invokestatic 35, 3) := by decide +kernel
theorem dL_net_225 : decode cL_net 225 = .ok (.iadd, 1) := by decide +kernel
theorem dL_net_226 : decode cL_net 226 = .ok (.putfield 93, 3) := by decide +kernel
theorem dL_net_229 : decode cL_net 229 = .ok (.aload_n 2, 1) := by decide +kernel
theorem dL_net_230 : decode cL_net 230 = .ok (.aload_n 1, 1) := by decide +kernel
theorem dL_net_231 : decode cL_net 231 = .ok (.aload_n 2, 1) := by decide +kernel
theorem dL_net_232 : decode cL_net 232 = .ok (.getfield 93, 3) := by decide +kernel
theorem dL_net_235 : decode cL_net 235 = .ok (.iconst 1, 1) := by decide +kernel
theorem dL_net_236 : decode cL_net 236 = .ok (.iadd, 1) := by decide +kernel
theorem dL_net_237 : decode cL_net 237 = .ok (.invokestatic 35, 3) := by decide +kernel
theorem dL_net_240 : decode cL_net 240 = .ok (.putfield 96, 3) := by decide +kernel
theorem dL_net_243 : decode cL_net 243 = .ok (.aload_n 2, 1) := by decide +kernel
theorem dL_net_244 : decode cL_net 244 = .ok (.iconst 1, 1) := by decide +kernel
theorem dL_net_245 : decode cL_net 245 = .ok (.aload_n 1, 1) := by decide +kernel
theorem dL_net_246 : decode cL_net 246 = .ok (.iconst 4, 1) := by decide +kernel
theorem dL_net_247 : decode cL_net 247 = .ok (.invokestatic 35, 3) := by decide +kernel
theorem dL_net_250 : decode cL_net 250 = .ok (.iadd, 1) := by decide +kernel
theorem dL_net_251 : decode cL_net 251 = .ok (.putfield 99, 3) := by decide +kernel
theorem dL_net_254 : decode cL_net 254 = .ok (.aload_n 2, 1) := by decide +kernel
theorem dL_net_255 : decode cL_net 255 = .ok (.aload_n 1, 1) := by decide +kernel
theorem dL_net_256 : decode cL_net 256 = .ok (.bipush 6, 2) := by decide +kernel
theorem dL_net_258 : decode cL_net 258 = .ok (.invokestatic 35, 3) := by decide +kernel
theorem dL_net_261 : decode cL_net 261 = .ok (.putfield 102, 3) := by decide +kernel
theorem dL_net_264 : decode cL_net 264 = .ok (.aload_n 2, 1) := by decide +kernel
theorem dL_net_265 : decode cL_net 265 = .ok (.aload_n 1, 1) := by decide +kernel
theorem dL_net_266 : decode cL_net 266 = .ok (.iconst 4, 1) := by decide +kernel
theorem dL_net_267 : decode cL_net 267 = .ok (.invokestatic 35, 3) := by decide +kernel
theorem dL_net_270 : decode cL_net 270 = .ok (.putfield 105, 3) := by decide +kernel
theorem dL_net_273 : decode cL_net 273 = .ok (.aload_n 0, 1) := by decide +kernel
theorem dL_net_274 : decode cL_net 274 = .ok (.new 59, 3) := by decide +kernel
theorem dL_net_277 : decode cL_net 277 = .ok (.dup, 1) := by decide +kernel
theorem dL_net_278 : decode cL_net 278 = .ok (.invokespecial 108, 3) := by decide +kernel
theorem dL_net_281 : decode cL_net 281 = .ok (.ldc 109, 2) := by decide +kernel
theorem dL_net_283 : decode cL_net 283 = .ok (.invokevirtual 58, 3) := by decide +kernel
theorem dL_net_286 : decode cL_net 286 = .ok (.aload_n 2, 1) := by decide +kernel
theorem dL_net_287 : decode cL_net 287 = .ok (.getfield 69, 3) := by decide +kernel
theorem dL_net_290 : decode cL_net 290 = .ok (.invokevirtual 63, 3) := by decide +kernel
theorem dL_net_293 : decode cL_net 293 = .ok (.ldc 111, 2) := by decide +kernel
theorem dL_net_295 : decode cL_net 295 = .ok (.invokevirtual 58, 3) := by decide +kernel
theorem dL_net_298 : decode cL_net 298 = .ok (.aload_n 2, 1) := by decide +kernel
theorem dL_net_299 : decode cL_net 299 = .ok (.getfield 72, 3) := by decide +kernel
theorem dL_net_302 : decode cL_net 302 = .ok (.invokevirtual 63, 3) := by decide +kernel
theorem dL_net_305 : decode cL_net 305 = .ok (.ldc 111, 2) := by decide +kernel
theorem dL_net_307 : decode cL_net 307 = .ok (.invokevirtual 58, 3) := by decide +kernel
theorem dL_net_310 : decode cL_net 310 = .ok (.aload_n 2, 1) := by decide +kernel
theorem dL_net_311 : decode cL_net 311 = .ok (.getfield 75, 3) := by decide +kernel
theorem dL_net_314 : decode cL_net 314 = .ok (.invokevirtual 63, 3) := by decide +kernel
theorem dL_net_317 : decode cL_net 317 = .ok (.ldc 111, 2) := by decide +kernel
theorem dL_net_319 : decode cL_net 319 = .ok (.invokevirtual 58, 3) := by decide +kernel
theorem dL_net_322 : decode cL_net 322 = .ok (.aload_n 2, 1) := by decide +kernel
theorem dL_net_323 : decode cL_net 323 = .ok (.getfield 78, 3) := by decide +kernel
theorem dL_net_326 : decode cL_net 326 = .ok (.invokevirtual 63, 3) := by decide +kernel
theorem dL_net_329 : decode cL_net 329 = .ok (.ldc 111, 2) := by decide +kernel
theorem dL_net_331 : decode cL_net 331 = .ok (.invokevirtual 58, 3) := by decide +kernel
theorem dL_net_334 : decode cL_net 334 = .ok (.aload_n 2, 1) := by decide +kernel
theorem dL_net_335 : decode cL_net 335 = .ok (.getfield 81, 3) := by decide +kernel
theorem dL_net_338 : decode cL_net 338 = .ok (.invokevirtual 63, 3) := by decide +kernel
theorem dL_net_341 : decode cL_net 341 = .ok (.ldc 113, 2) := by decide +kernel
theorem dL_net_343 : decode cL_net 343 = .ok (.invokevirtual 58, 3) := by decide +kernel
theorem dL_net_346 : decode cL_net 346 = .ok (.aload_n 2, 1) := by decide +kernel
theorem dL_net_347 : decode cL_net 347 = .ok (.getfield 84, 3) := by decide +kernel
theorem dL_net_350 : decode cL_net 350 = .ok (.invokevirtual 63, 3) := by decide +kernel
theorem dL_net_353 : decode cL_net 353 = .ok (.ldc 115, 2) := by decide +kernel
theorem dL_net_355 : decode cL_net 355 = .ok (.invokevirtual 58, 3) := by decide +kernel
theorem dL_net_358 : decode cL_net 358 = .ok (.aload_n 2, 1) := by decide +kernel
theorem dL_net_359 : decode cL_net 359 = .ok (.getfield 87, 3) := by decide +kernel
theorem dL_net_362 : decode cL_net 362 = .ok (.invokevirtual 63, 3) := by decide +kernel
theorem dL_net_365 : decode cL_net 365 = .ok (.ldc 111, 2) := by decide +kernel
theorem dL_net_367 : decode cL_net 367 = .ok (.invokevirtual 58, 3) := by decide +kernel
theorem dL_net_370 : decode cL_net 370 = .ok (.aload_n 2, 1) := by decide +kernel
theorem dL_net_371 : decode cL_net 371 = .ok (.getfield 90, 3) := by decide +kernel
theorem dL_net_374 : decode cL_net 374 = .ok (.invokevirtual 63, 3) := by decide +kernel
theorem dL_net_377 : decode cL_net 377 = .ok (.ldc 117, 2) := by decide +kernel
theorem dL_net_379 : decode cL_net 379 = .ok (.invokevirtual 58, 3) := by decide +kernel
theorem dL_net_382 : decode cL_net 382 = .ok (.aload_n 2, 1) := by decide +kernel
theorem dL_net_383 : decode cL_net 383 = .ok (.getfield 93, 3) := by decide +kernel
theorem dL_net_386 : decode cL_net 386 = .ok (.invokevirtual 63, 3) := by decide +kernel
theorem dL_net_389 : decode cL_net 389 = .ok (.ldc 111, 2) := by decide +kernel
theorem dL_net_391 : decode cL_net 391 = .ok (.invokevirtual 58, 3) := by decide +kernel
theorem dL_net_394 : decode cL_net 394 = .ok (.aload_n 2, 1) := by decide +kernel
theorem dL_net_395 : decode cL_net 395 = .ok (.getfield 96, 3) := by decide +kernel
theorem dL_net_398 : decode cL_net 398 = .ok (.invokevirtual 63, 3) := by decide +kernel
theorem dL_net_401 : decode cL_net 401 = .ok (.ldc 119, 2) := by decide +kernel
theorem dL_net_403 : decode cL_net 403 = .ok (.invokevirtual 58, 3) := by decide +kernel
theorem dL_net_406 : decode cL_net 406 = .ok (.aload_n 2, 1) := by decide +kernel
theorem dL_net_407 : decode cL_net 407 = .ok (.getfield 99, 3) := by decide +kernel
theorem dL_net_410 : decode cL_net 410 = .ok (.invokevirtual 63, 3) := by decide +kernel
theorem dL_net_413 : decode cL_net 413 = .ok (.ldc 121, 2) := by decide +kernel
theorem dL_net_415 : decode cL_net 415 = .ok (.invokevirtual 58, 3) := by decide +kernel
theorem dL_net_418 : decode cL_net 418 = .ok (.aload_n 2, 1) := by decide +kernel
theorem dL_net_419 : decode cL_net 419 = .ok (.getfield 102, 3) := by decide +kernel
theorem dL_net_422 : decode cL_net 422 = .ok (.invokevirtual 63, 3) := by decide +kernel
theorem dL_net_425 : decode cL_net 425 = .ok (.ldc 123, 2) := by decide +kernel
theorem dL_net_427 : decode cL_net 427 = .ok (.invokevirtual 58, 3) := by decide +kernel
theorem dL_net_430 : decode cL_net 430 = .ok (.aload_n 2, 1) := by decide +kernel
theorem dL_net_431 : decode cL_net 431 = .ok (.getfield 105, 3) := by decide +kernel
theorem dL_net_434 : decode cL_net 434 = .ok (.invokevirtual 63, 3) := by decide +kernel
theorem dL_net_437 : decode cL_net 437 = .ok (.ldc 125, 2) := by decide +kernel
theorem dL_net_439 : decode cL_net 439 = .ok (.invokevirtual 58, 3) := by decide +kernel
theorem dL_net_442 : decode cL_net 442 = .ok (.invokevirtual 127, 3) := by decide +kernel
theorem dL_net_445 : decode cL_net 445 = .ok (.invokevirtual 58, 3) := by decide +kernel
theorem dL_net_448 : decode cL_net 448 = .ok (.pop, 1) := by decide +kernel
theorem dL_net_449 : decode cL_net 449 = .ok (.aload_n 2, 1) := by decide +kernel
theorem dL_net_450 : decode cL_net 450 = .ok (.aload_n 1, 1) := by decide +kernel
theorem dL_net_451 : decode cL_net 451 = .ok (.iconst 5, 1) := by decide +kernel
theorem dL_net_452 : decode cL_net 452 = .ok (.invokestatic 35, 3) := by decide +kernel
theorem dL_net_455 : decode cL_net 455 = .ok (.putfield 131, 3) := by decide +kernel
theorem dL_net_458 : decode cL_net 458 = .ok (.iconst 0, 1) := by decide +kernel
theorem dL_net_459 : decode cL_net 459 = .ok (.istore_n 3, 1) := by decide +kernel
theorem dL_net_460 : decode cL_net 460 = .ok (.iload_n 3, 1) := by decide +kernel
theorem dL_net_461 : decode cL_net 461 = .ok (.aload_n 2, 1) := by decide +kernel
theorem dL_net_462 : decode cL_net 462 = .ok (.getfield 131, 3) := by decide +kernel
theorem dL_net_465 : decode cL_net 465 = .ok (.if_icmp .ge 104, 3) := by decide +kernel
theorem dL_net_468 : decode cL_net 468 = .ok (.aload_n 2, 1) := by decide +kernel
theorem dL_net_469 : decode cL_net 469 = .ok (.getfield 134, 3) := by decide +kernel
theorem dL_net_472 : decode cL_net 472 = .ok (.iload_n 3, 1) := by decide +kernel
theorem dL_net_473 : decode cL_net 473 = .ok (.iload_n 3, 1) := by decide +kernel
theorem dL_net_474 : decode cL_net 474 = .ok (.ifCond .ne 7, 3) := by decide +kernel
theorem dL_net_477 : decode cL_net 477 = .ok (.iconst 0, 1) := by decide +kernel
theorem dL_net_478 : decode cL_net 478 = .ok (.goto 13, 3) := by decide +kernel
theorem dL_net_481 : decode cL_net 481 = .ok (.aload_n 2, 1) := by decide +kernel
theorem dL_net_482 : decode cL_net 482 = .ok (.getfield 134, 3) := by decide +kernel
theorem dL_net_485 : decode cL_net 485 = .ok (.iload_n 3, 1) := by decide +kernel
theorem dL_net_486 : decode cL_net 486 = .ok (.iconst 1, 1) := by decide +kernel
theorem dL_net_487 : decode cL_net 487 = .ok (.isub, 1) := by decide +kernel
theorem dL_net_488 : decode cL_net 488 = .ok (.iaload, 1) := by decide +kernel
theorem dL_net_489 : decode cL_net 489 = .ok (.iconst 1, 1) := by decide +kernel
theorem dL_net_490 : decode cL_net 490 = .ok (.iadd, 1) := by decide +kernel
theorem dL_net_491 : decode cL_net 491 = .ok (.aload_n 1, 1) := by decide +kernel
theorem dL_net_492 : decode cL_net 492 = .ok (.bipush 60, 2) := by decide +kernel
theorem dL_net_494 : decode cL_net 494 = .ok (.invokestatic 35, 3) := by decide +kernel
theorem dL_net_497 : decode cL_net 497 = .ok (.iadd, 1) := by decide +kernel
theorem dL_net_498 : decode cL_net 498 = .ok (.iastore, 1) := by decide +kernel
theorem dL_net_499 : decode cL_net 499 = .ok (.aload_n 2, 1) := by decide +kernel
theorem dL_net_500 : decode cL_net 500 = .ok (.getfield 138, 3) := by decide +kernel
theorem dL_net_503 : decode cL_net 503 = .ok (.iload_n 3, 1) := by decide +kernel
theorem dL_net_504 : decode cL_net 504 = .ok (.iload_n 3, 1) := by decide +kernel
theorem dL_net_505 : decode cL_net 505 = .ok (.ifCond .ne 7, 3) := by decide +kernel
theorem dL_net_508 : decode cL_net 508 = .ok (.iconst 0, 1) := by decide +kernel
theorem dL_net_509 : decode cL_net 509 = .ok (.goto 11, 3) := by decide +kernel
theorem dL_net_512 : decode cL_net 512 = .ok (.aload_n 2, 1) := by decide +kernel
theorem dL_net_513 : decode cL_net 513 = .ok (.getfield 138, 3) := by decide +kernel
theorem dL_net_516 : decode cL_net 516 = .ok (.iload_n 3, 1) := by decide +kernel
theorem dL_net_517 : decode cL_net 517 = .ok (.iconst 1, 1) := by decide +kernel
theorem dL_net_518 : decode cL_net 518 = .ok (.isub, 1) := by decide +kernel
theorem dL_net_519 : decode cL_net 519 = .ok (.iaload, 1) := by decide +kernel
theorem dL_net_520 : decode cL_net 520 = .ok (.aload_n 1, 1) := by decide +kernel
theorem dL_net_521 : decode cL_net 521 = .ok (.bipush 20, 2) := by decide +kernel
theorem dL_net_523 : decode cL_net 523 = .ok (.invokestatic 35, 3) := by decide +kernel
theorem dL_net_526 : decode cL_net 526 = .ok (.iadd, 1) := by decide +kernel
theorem dL_net_527 : decode cL_net 527 = .ok (.iastore, 1) := by decide +kernel
theorem dL_net_528 : decode cL_net 528 = .ok (.aload_n 0, 1) := by decide +kernel
theorem dL_net_529 : decode cL_net 529 = .ok (.ldc 141, 2) := by decide +kernel
theorem dL_net_531 : decode cL_net 531 = .ok (.invokevirtual 58, 3) := by decide +kernel
theorem dL_net_534 : decode cL_net 534 = .ok (.aload_n 2, 1) := by decide +kernel
theorem dL_net_535 : decode cL_net 535 = .ok (.getfield 134, 3) := by decide +kernel
theorem dL_net_538 : decode cL_net 538 = .ok (.iload_n 3, 1) := by decide +kernel
theorem dL_net_539 : decode cL_net 539 = .ok (.iaload, 1) := by decide +kernel
theorem dL_net_540 : decode cL_net 540 = .ok (.invokevirtual 63, 3) := by decide +kernel
theorem dL_net_543 : decode cL_net 543 = .ok (.bipush 32, 2) := by decide +kernel
theorem dL_net_545 : decode cL_net 545 = .ok (.invokevirtual 66, 3) := by decide +kernel
theorem dL_net_548 : decode cL_net 548 = .ok (.aload_n 2, 1) := by decide +kernel
theorem dL_net_549 : decode cL_net 549 = .ok (.getfield 138, 3) := by decide +kernel
theorem dL_net_552 : decode cL_net 552 = .ok (.iload_n 3, 1) := by decide +kernel
theorem dL_net_553 : decode cL_net 553 = .ok (.iaload, 1) := by decide +kernel
theorem dL_net_554 : decode cL_net 554 = .ok (.invokevirtual 63, 3) := by decide +kernel
theorem dL_net_557 : decode cL_net 557 = .ok (.bipush 59, 2) := by decide +kernel
theorem dL_net_559 : decode cL_net 559 = .ok (.invokevirtual 66, 3) := by decide +kernel
theorem dL_net_562 : decode cL_net 562 = .ok (.pop, 1) := by decide +kernel
theorem dL_net_563 : decode cL_net 563 = .ok (.iinc 3 1, 3) := by decide +kernel
theorem dL_net_566 : decode cL_net 566 = .ok (.goto (-106), 3) := by decide +kernel
theorem dL_net_569 : decode cL_net 569 = .ok (.aload_n 2, 1) := by decide +kernel
theorem dL_net_570 : decode cL_net 570 = .ok (.areturn, 1) := by decide +kernel
theorem dL_plays_0 : decode cL_plays 0 = .ok (.new 59, 3) := by decide +kernel
theorem dL_plays_3 : decode cL_plays 3 = .ok (.dup, 1) := by decide +kernel
theorem dL_plays_4 : decode cL_plays 4 = .ok (.invokespecial 108, 3) := by decide +kernel
theorem dL_plays_7 : decode cL_plays 7 = .ok (.astore_n 2, 1) := by decide +kernel
theorem dL_plays_8 : decode cL_plays 8 = .ok (.aload_n 2, 1) := by decide +kernel
theorem dL_plays_9 : decode cL_plays 9 = .ok (.aload_n 1, 1) := by decide +kernel
theorem dL_plays_10 : decode cL_plays 10 = .ok (.invokestatic 143, 3) := by decide +kernel
theorem dL_plays_13 : decode cL_plays 13 = .ok (.astore_n 3, 1) := by decide +kernel
theorem dL_plays_14 : decode cL_plays 14 = .ok (.aload_n 0, 1) := by decide +kernel
theorem dL_plays_15 : decode cL_plays 15 = .ok (.aload_n 2, 1) := by decide +kernel
theorem dL_plays_16 : decode cL_plays 16 = .ok (.invokevirtual 127, 3) := by decide +kernel
theorem dL_plays_19 : decode cL_plays 19 = .ok (.invokestatic 147, 3) := by decide +kernel
theorem dL_plays_22 : decode cL_plays 22 = .ok (.ifCond .eq 55, 3) := by decide +kernel
theorem dL_plays_25 : decode cL_plays 25 = .ok (.aload_n 0, 1) := by decide +kernel
theorem dL_plays_26 : decode cL_plays 26 = .ok (.aload_n 2, 1) := by decide +kernel
theorem dL_plays_27 : decode cL_plays 27 = .ok (.invokevirtual 151, 3) := by decide +kernel
theorem dL_plays_30 : decode cL_plays 30 = .ok (.invokevirtual 152, 3) := by decide +kernel
theorem dL_plays_33 : decode cL_plays 33 = .ok (.ifCond .ne 44, 3) := by decide +kernel
theorem dL_plays_36 : decode cL_plays 36 = .ok (.aload_n 0, 1) := by decide +kernel
theorem dL_plays_37 : decode cL_plays 37 = .ok (.iconst 0, 1) := by decide +kernel
theorem dL_plays_38 : decode cL_plays 38 = .ok (.invokevirtual 156, 3) := by decide +kernel
theorem dL_plays_41 : decode cL_plays 41 = .ok (.aload_n 3, 1) := by decide +kernel
theorem dL_plays_42 : decode cL_plays 42 = .ok (.getfield 39, 3) := by decide +kernel
theorem dL_plays_45 : decode cL_plays 45 = .ok (.if_icmp .ne 32, 3) := by decide +kernel
theorem dL_plays_48 : decode cL_plays 48 = .ok (.aload_n 0, 1) := by decide +kernel
theorem dL_plays_49 : decode cL_plays 49 = .ok (.iconst 1, 1) := by decide +kernel
theorem dL_plays_50 : decode cL_plays 50 = .ok (.invokevirtual 156, 3) := by decide +kernel
theorem dL_plays_53 : decode cL_plays 53 = .ok (.aload_n 3, 1) := by decide +kernel
theorem dL_plays_54 : decode cL_plays 54 = .ok (.getfield 75, 3) := by decide +kernel
theorem dL_plays_57 : decode cL_plays 57 = .ok (.aload_n 3, 1) := by decide +kernel
theorem dL_plays_58 : decode cL_plays 58 = .ok (.getfield 78, 3) := by decide +kernel
theorem dL_plays_61 : decode cL_plays 61 = .ok (.imul, 1) := by decide +kernel
theorem dL_plays_62 : decode cL_plays 62 = .ok (.if_icmp .ne 15, 3) := by decide +kernel
theorem dL_plays_65 : decode cL_plays 65 = .ok (.aload_n 0, 1) := by decide +kernel
theorem dL_plays_66 : decode cL_plays 66 = .ok (.iconst 2, 1) := by decide +kernel
theorem dL_plays_67 : decode cL_plays 67 = .ok (.invokevirtual 156, 3) := by decide +kernel
theorem dL_plays_70 : decode cL_plays 70 = .ok (.aload_n 3, 1) := by decide +kernel
theorem dL_plays_71 : decode cL_plays 71 = .ok (.getfield 131, 3) := by decide +kernel
theorem dL_plays_74 : decode cL_plays 74 = .ok (.if_icmp .eq 5, 3) := by decide +kernel
theorem dL_plays_77 : decode cL_plays 77 = .ok (.iconst 0, 1) := by decide +kernel
theorem dL_plays_78 : decode cL_plays 78 = .ok (.ireturn, 1) := by decide +kernel
theorem dL_plays_79 : decode cL_plays 79 = .ok (.iconst 0, 1) := by decide +kernel
theorem dL_plays_80 : decode cL_plays 80 = .ok (.istore 4, 2) := by decide +kernel
theorem dL_plays_82 : decode cL_plays 82 = .ok (.iload 4, 2) := by decide +kernel
theorem dL_plays_84 : decode cL_plays 84 = .ok (.bipush 40, 2) := by decide +kernel
theorem dL_plays_86 : decode cL_plays 86 = .ok (.if_icmp .ge 28, 3) := by decide +kernel
theorem dL_plays_89 : decode cL_plays 89 = .ok (.aload_n 0, 1) := by decide +kernel
theorem dL_plays_90 : decode cL_plays 90 = .ok (.aload_n 3, 1) := by decide +kernel
theorem dL_plays_91 : decode cL_plays 91 = .ok (.aload_n 1, 1) := by decide +kernel
theorem dL_plays_92 : decode cL_plays 92 = .ok (.invokestatic 159, 3) := by decide +kernel
theorem dL_plays_95 : decode cL_plays 95 = .ok (.ifCond .eq 11, 3) := by decide +kernel
theorem dL_plays_98 : decode cL_plays 98 = .ok (.aload_n 0, 1) := by decide +kernel
theorem dL_plays_99 : decode cL_plays 99 = .ok (.aload_n 3, 1) := by decide +kernel
theorem dL_plays_100 : decode cL_plays 100 = .ok (.invokestatic 163, 3) := by decide +kernel
theorem dL_plays_103 : decode cL_plays 103 = .ok (.ifCond .ne 5, 3) := by decide +kernel
theorem dL_plays_106 : decode cL_plays 106 = .ok (.iconst 0, 1) := by decide +kernel
theorem dL_plays_107 : decode cL_plays 107 = .ok (.ireturn, 1) := by decide +kernel
theorem dL_plays_108 : decode cL_plays 108 = .ok (.iinc 4 1, 3) := by decide +kernel
theorem dL_plays_111 : decode cL_plays 111 = .ok (.goto (-29), 3) := by decide +kernel
theorem dL_plays_114 : decode cL_plays 114 = .ok (.aload_n 1, 1) := by decide +kernel
theorem dL_plays_115 : decode cL_plays 115 = .ok (.sipush 500, 3) := by decide +kernel
theorem dL_plays_118 : decode cL_plays 118 = .ok (.invokestatic 35, 3) := by decide +kernel
theorem dL_plays_121 : decode cL_plays 121 = .ok (.istore 4, 2) := by decide +kernel
theorem dL_plays_123 : decode cL_plays 123 = .ok (.aload_n 1, 1) := by decide +kernel
theorem dL_plays_124 : decode cL_plays 124 = .ok (.aload_n 3, 1) := by decide +kernel
theorem dL_plays_125 : decode cL_plays 125 = .ok (.getfield 39, 3) := by decide +kernel
theorem dL_plays_128 : decode cL_plays 128 = .ok (.invokestatic 35, 3) := by decide +kernel
theorem dL_plays_131 : decode cL_plays 131 = .ok (.istore 5, 2) := by decide +kernel
theorem dL_plays_133 : decode cL_plays 133 = .ok (.aload_n 1, 1) := by decide +kernel
theorem dL_plays_134 : decode cL_plays 134 = .ok (.aload_n 3, 1) := by decide +kernel
theorem dL_plays_135 : decode cL_plays 135 = .ok (.getfield 75, 3) := by decide +kernel
theorem dL_plays_138 : decode cL_plays 138 = .ok (.aload_n 3, 1) := by decide +kernel
theorem dL_plays_139 : decode cL_plays 139 = .ok (.getfield 78, 3) := by decide +kernel
theorem dL_plays_142 : decode cL_plays 142 = .ok (.imul, 1) := by decide +kernel
theorem dL_plays_143 : decode cL_plays 143 = .ok (.invokestatic 35, 3) := by decide +kernel
theorem dL_plays_146 : decode cL_plays 146 = .ok (.istore 6, 2) := by decide +kernel
theorem dL_plays_148 : decode cL_plays 148 = .ok (.aload_n 0, 1) := by decide +kernel
theorem dL_plays_149 : decode cL_plays 149 = .ok (.iload 4, 2) := by decide +kernel
theorem dL_plays_151 : decode cL_plays 151 = .ok (.invokevirtual 167, 3) := by decide +kernel
theorem dL_plays_154 : decode cL_plays 154 = .ok (.aload_n 3, 1) := by decide +kernel
theorem dL_plays_155 : decode cL_plays 155 = .ok (.iload 4, 2) := by decide +kernel
theorem dL_plays_157 : decode cL_plays 157 = .ok (.invokevirtual 170, 3) := by decide +kernel
theorem dL_plays_160 : decode cL_plays 160 = .ok (.if_icmp .ne 103, 3) := by decide +kernel
theorem dL_plays_163 : decode cL_plays 163 = .ok (.aload_n 0, 1) := by decide +kernel
theorem dL_plays_164 : decode cL_plays 164 = .ok (.iload 6, 2) := by decide +kernel
theorem dL_plays_166 : decode cL_plays 166 = .ok (.iload 5, 2) := by decide +kernel
theorem dL_plays_168 : decode cL_plays 168 = .ok (.invokevirtual 173, 3) := by decide +kernel
theorem dL_plays_171 : decode cL_plays 171 = .ok (.aload_n 3, 1) := by decide +kernel
theorem dL_plays_172 : decode cL_plays 172 = .ok (.aload_n 3, 1) := by decide +kernel
theorem dL_plays_173 : decode cL_plays 173 = .ok (.getfield 69, 3) := by decide +kernel
theorem dL_plays_176 : decode cL_plays 176 = .ok (.iload 6, 2) := by decide +kernel
theorem dL_plays_178 : decode cL_plays 178 = .ok (.aload_n 3, 1) := by decide +kernel
theorem dL_plays_179 : decode cL_plays 179 = .ok (.getfield 75, 3) := by decide +kernel
theorem dL_plays_182 : decode cL_plays 182 = .ok (.irem, 1) := by decide +kernel
theorem dL_plays_183 : decode cL_plays 183 = .ok (.aload_n 3, 1) := by decide +kernel
theorem dL_plays_184 : decode cL_plays 184 = .ok (.getfield 81, 3) := by decide +kernel
theorem dL_plays_187 : decode cL_plays 187 = .ok (.imul, 1) := by decide +kernel
theorem dL_plays_188 : decode cL_plays 188 = .ok (.iadd, 1) := by decide +kernel
theorem dL_plays_189 : decode cL_plays 189 = .ok (.aload_n 3, 1) := by decide +kernel
theorem dL_plays_190 : decode cL_plays 190 = .ok (.getfield 72, 3) := by decide +kernel
theorem dL_plays_193 : decode cL_plays 193 = .ok (.iload 6, 2) := by decide +kernel
theorem dL_plays_195 : decode cL_plays 195 = .ok (.aload_n 3, 1) := by decide +kernel
theorem dL_plays_196 : decode cL_plays 196 = .ok (.getfield 75, 3) := by decide +kernel
theorem dL_plays_199 : decode cL_plays 199 = .ok (.idiv, 1) := by decide +kernel
theorem dL_plays_200 : decode cL_plays 200 = .ok (.aload_n 3, 1) := by decide +kernel
theorem dL_plays_201 : decode cL_plays 201 = .ok (.getfield 81, 3) := by decide +kernel
theorem dL_plays_204 : decode cL_plays 204 = .ok (.imul, 1) := by decide +kernel
theorem dL_plays_205 : decode cL_plays 205 = .ok (.iadd, 1) := by decide +kernel
theorem dL_plays_206 : decode cL_plays 206 = .ok (.aload_n 3, 1) := by decide +kernel
theorem dL_plays_207 : decode cL_plays 207 = .ok (.getfield 43, 3) := by decide +kernel
theorem dL_plays_210 : decode cL_plays 210 = .ok (.iload 5, 2) := by decide +kernel
theorem dL_plays_212 : decode cL_plays 212 = .ok (.aaload, 1) := by decide +kernel
theorem dL_plays_213 : decode cL_plays 213 = .ok (.invokevirtual 177, 3) := by decide +kernel
theorem dL_plays_216 : decode cL_plays 216 = .ok (.if_icmp .ne 47, 3) := by decide +kernel
theorem dL_plays_219 : decode cL_plays 219 = .ok (.aload_n 0, 1) := by decide +kernel
theorem dL_plays_220 : decode cL_plays 220 = .ok (.iload 5, 2) := by decide +kernel
theorem dL_plays_222 : decode cL_plays 222 = .ok (.iconst 0, 1) := by decide +kernel
theorem dL_plays_223 : decode cL_plays 223 = .ok (.invokevirtual 181, 3) := by decide +kernel
theorem dL_plays_226 : decode cL_plays 226 = .ok (.aload_n 3, 1) := by decide +kernel
theorem dL_plays_227 : decode cL_plays 227 = .ok (.aload_n 3, 1) := by decide +kernel
theorem dL_plays_228 : decode cL_plays 228 = .ok (.getfield 43, 3) := by decide +kernel
theorem dL_plays_231 : decode cL_plays 231 = .ok (.iload 5, 2) := by decide +kernel
theorem dL_plays_233 : decode cL_plays 233 = .ok (.aaload, 1) := by decide +kernel
theorem dL_plays_234 : decode cL_plays 234 = .ok (.getfield 50, 3) := by decide +kernel
theorem dL_plays_237 : decode cL_plays 237 = .ok (.aload_n 3, 1) := by decide +kernel
theorem dL_plays_238 : decode cL_plays 238 = .ok (.getfield 43, 3) := by decide +kernel
theorem dL_plays_241 : decode cL_plays 241 = .ok (.iload 5, 2) := by decide +kernel
theorem dL_plays_243 : decode cL_plays 243 = .ok (.aaload, 1) := by decide +kernel
theorem dL_plays_244 : decode cL_plays 244 = .ok (.getfield 53, 3) := by decide +kernel
theorem dL_plays_247 : decode cL_plays 247 = .ok (.aload_n 3, 1) := by decide +kernel
theorem dL_plays_248 : decode cL_plays 248 = .ok (.getfield 43, 3) := by decide +kernel
theorem dL_plays_251 : decode cL_plays 251 = .ok (.iconst 0, 1) := by decide +kernel
theorem dL_plays_252 : decode cL_plays 252 = .ok (.aaload, 1) := by decide +kernel
theorem dL_plays_253 : decode cL_plays 253 = .ok (.invokevirtual 177, 3) := by decide +kernel
theorem dL_plays_256 : decode cL_plays 256 = .ok (.if_icmp .ne 7, 3) := by decide +kernel
theorem dL_plays_259 : decode cL_plays 259 = .ok (.iconst 1, 1) := by decide +kernel
theorem dL_plays_260 : decode cL_plays 260 = .ok (.goto 4, 3) := by decide +kernel
theorem dL_plays_263 : decode cL_plays 263 = .ok (.iconst 0, 1) := by decide +kernel
theorem dL_plays_264 : decode cL_plays 264 = .ok (.ireturn, 1) := by decide +kernel
theorem dL_acts_0 : decode cL_acts 0 = .ok (.aload_n 2, 1) := by decide +kernel
theorem dL_acts_1 : decode cL_acts 1 = .ok (.aload_n 1, 1) := by decide +kernel
theorem dL_acts_2 : decode cL_acts 2 = .ok (.getfield 39, 3) := by decide +kernel
theorem dL_acts_5 : decode cL_acts 5 = .ok (.invokestatic 35, 3) := by decide +kernel
theorem dL_acts_8 : decode cL_acts 8 = .ok (.istore_n 3, 1) := by decide +kernel
theorem dL_acts_9 : decode cL_acts 9 = .ok (.aload_n 1, 1) := by decide +kernel
theorem dL_acts_10 : decode cL_acts 10 = .ok (.getfield 43, 3) := by decide +kernel
theorem dL_acts_13 : decode cL_acts 13 = .ok (.iload_n 3, 1) := by decide +kernel
theorem dL_acts_14 : decode cL_acts 14 = .ok (.aaload, 1) := by decide +kernel
theorem dL_acts_15 : decode cL_acts 15 = .ok (.astore 4, 2) := by decide +kernel
theorem dL_acts_17 : decode cL_acts 17 = .ok (.aload_n 2, 1) := by decide +kernel
theorem dL_acts_18 : decode cL_acts 18 = .ok (.bipush 12, 2) := by decide +kernel
theorem dL_acts_20 : decode cL_acts 20 = .ok (.invokestatic 35, 3) := by decide +kernel
theorem dL_acts_23 : decode cL_acts 23 = .ok (.tableswitch 257 0 6 #[41, 41, 41, 41, 99, 139, 182], 41) := by decide +kernel
theorem dL_acts_64 : decode cL_acts 64 = .ok (.aload_n 2, 1) := by decide +kernel
theorem dL_acts_65 : decode cL_acts 65 = .ok (.iconst 3, 1) := by decide +kernel
theorem dL_acts_66 : decode cL_acts 66 = .ok (.invokestatic 35, 3) := by decide +kernel
theorem dL_acts_69 : decode cL_acts 69 = .ok (.ifCond .ne 12, 3) := by decide +kernel
theorem dL_acts_72 : decode cL_acts 72 = .ok (.aload_n 2, 1) := by decide +kernel
theorem dL_acts_73 : decode cL_acts 73 = .ok (.bipush 10, 2) := by decide +kernel
theorem dL_acts_75 : decode cL_acts 75 = .ok (.invokestatic 35, 3) := by decide +kernel
theorem dL_acts_78 : decode cL_acts 78 = .ok (.goto 10, 3) := by decide +kernel
theorem dL_acts_81 : decode cL_acts 81 = .ok (.aload_n 2, 1) := by decide +kernel
theorem dL_acts_82 : decode cL_acts 82 = .ok (.sipush 200, 3) := by decide +kernel
theorem dL_acts_85 : decode cL_acts 85 = .ok (.invokestatic 35, 3) := by decide +kernel
theorem dL_acts_88 : decode cL_acts 88 = .ok (.istore 5, 2) := by decide +kernel
theorem dL_acts_90 : decode cL_acts 90 = .ok (.aload 4, 2) := by decide +kernel
theorem dL_acts_92 : decode cL_acts 92 = .ok (.getfield 184, 3) := by decide +kernel
theorem dL_acts_95 : decode cL_acts 95 = .ok (.istore 6, 2) := by decide +kernel
theorem dL_acts_97 : decode cL_acts 97 = .ok (.aload 4, 2) := by decide +kernel
theorem dL_acts_99 : decode cL_acts 99 = .ok (.iload 5, 2) := by decide +kernel
theorem dL_acts_101 : decode cL_acts 101 = .ok (.putfield 184, 3) := by decide +kernel
theorem dL_acts_104 : decode cL_acts 104 = .ok (.aload_n 0, 1) := by decide +kernel
theorem dL_acts_105 : decode cL_acts 105 = .ok (.iload_n 3, 1) := by decide +kernel
theorem dL_acts_106 : decode cL_acts 106 = .ok (.iload 5, 2) := by decide +kernel
theorem dL_acts_108 : decode cL_acts 108 = .ok (.invokevirtual 187, 3) := by decide +kernel
theorem dL_acts_111 : decode cL_acts 111 = .ok (.iload 6, 2) := by decide +kernel
theorem dL_acts_113 : decode cL_acts 113 = .ok (.if_icmp .ne 7, 3) := by decide +kernel
theorem dL_acts_116 : decode cL_acts 116 = .ok (.iconst 1, 1) := by decide +kernel
theorem dL_acts_117 : decode cL_acts 117 = .ok (.goto 4, 3) := by decide +kernel
theorem dL_acts_120 : decode cL_acts 120 = .ok (.iconst 0, 1) := by decide +kernel
theorem dL_acts_121 : decode cL_acts 121 = .ok (.ireturn, 1) := by decide +kernel
theorem dL_acts_122 : decode cL_acts 122 = .ok (.aload 4, 2) := by decide +kernel
theorem dL_acts_124 : decode cL_acts 124 = .ok (.getfield 190, 3) := by decide +kernel
theorem dL_acts_127 : decode cL_acts 127 = .ok (.istore 5, 2) := by decide +kernel
theorem dL_acts_129 : decode cL_acts 129 = .ok (.iload 5, 2) := by decide +kernel
theorem dL_acts_131 : decode cL_acts 131 = .ok (.ifCond .eq 8, 3) := by decide +kernel
theorem dL_acts_134 : decode cL_acts 134 = .ok (.bipush (-3), 2) := by decide +kernel
theorem dL_acts_136 : decode cL_acts 136 = .ok (.goto 8, 3) := by decide +kernel
theorem dL_acts_139 : decode cL_acts 139 = .ok (.aload_n 1, 1) := by decide +kernel
theorem dL_acts_140 : decode cL_acts 140 = .ok (.iload_n 3, 1) := by decide +kernel
theorem dL_acts_141 : decode cL_acts 141 = .ok (.invokevirtual 194, 3) := by decide +kernel
theorem dL_acts_144 : decode cL_acts 144 = .ok (.istore 6, 2) := by decide +kernel
theorem dL_acts_146 : decode cL_acts 146 = .ok (.aload_n 0, 1) := by decide +kernel
theorem dL_acts_147 : decode cL_acts 147 = .ok (.iload_n 3, 1) := by decide +kernel
theorem dL_acts_148 : decode cL_acts 148 = .ok (.invokestatic 197, 3) := by decide +kernel
theorem dL_acts_151 : decode cL_acts 151 = .ok (.iload 6, 2) := by decide +kernel
theorem dL_acts_153 : decode cL_acts 153 = .ok (.if_icmp .ne 7, 3) := by decide +kernel
theorem dL_acts_156 : decode cL_acts 156 = .ok (.iconst 1, 1) := by decide +kernel
theorem dL_acts_157 : decode cL_acts 157 = .ok (.goto 4, 3) := by decide +kernel
theorem dL_acts_160 : decode cL_acts 160 = .ok (.iconst 0, 1) := by decide +kernel
theorem dL_acts_161 : decode cL_acts 161 = .ok (.ireturn, 1) := by decide +kernel
theorem dL_acts_162 : decode cL_acts 162 = .ok (.aload 4, 2) := by decide +kernel
theorem dL_acts_164 : decode cL_acts 164 = .ok (.getfield 190, 3) := by decide +kernel
theorem dL_acts_167 : decode cL_acts 167 = .ok (.ifCond .eq 12, 3) := by decide +kernel
theorem dL_acts_170 : decode cL_acts 170 = .ok (.aload_n 1, 1) := by decide +kernel
theorem dL_acts_171 : decode cL_acts 171 = .ok (.aload 4, 2) := by decide +kernel
theorem dL_acts_173 : decode cL_acts 173 = .ok (.invokevirtual 201, 3) := by decide +kernel
theorem dL_acts_176 : decode cL_acts 176 = .ok (.goto 5, 3) := by decide +kernel
theorem dL_acts_179 : decode cL_acts 179 = .ok (.bipush (-3), 2) := by decide +kernel
theorem dL_acts_181 : decode cL_acts 181 = .ok (.istore 5, 2) := by decide +kernel
theorem dL_acts_183 : decode cL_acts 183 = .ok (.aload 4, 2) := by decide +kernel
theorem dL_acts_185 : decode cL_acts 185 = .ok (.iconst 0, 1) := by decide +kernel
theorem dL_acts_186 : decode cL_acts 186 = .ok (.putfield 190, 3) := by decide +kernel
theorem dL_acts_189 : decode cL_acts 189 = .ok (.aload_n 0, 1) := by decide +kernel
theorem dL_acts_190 : decode cL_acts 190 = .ok (.iload_n 3, 1) := by decide +kernel
theorem dL_acts_191 : decode cL_acts 191 = .ok (.invokestatic 205, 3) := by decide +kernel
theorem dL_acts_194 : decode cL_acts 194 = .ok (.iload 5, 2) := by decide +kernel
theorem dL_acts_196 : decode cL_acts 196 = .ok (.if_icmp .ne 7, 3) := by decide +kernel
theorem dL_acts_199 : decode cL_acts 199 = .ok (.iconst 1, 1) := by decide +kernel
theorem dL_acts_200 : decode cL_acts 200 = .ok (.goto 4, 3) := by decide +kernel
theorem dL_acts_203 : decode cL_acts 203 = .ok (.iconst 0, 1) := by decide +kernel
theorem dL_acts_204 : decode cL_acts 204 = .ok (.ireturn, 1) := by decide +kernel
theorem dL_acts_205 : decode cL_acts 205 = .ok (.aload_n 2, 1) := by decide +kernel
theorem dL_acts_206 : decode cL_acts 206 = .ok (.bipush 20, 2) := by decide +kernel
theorem dL_acts_208 : decode cL_acts 208 = .ok (.invokestatic 35, 3) := by decide +kernel
theorem dL_acts_211 : decode cL_acts 211 = .ok (.istore 5, 2) := by decide +kernel
theorem dL_acts_213 : decode cL_acts 213 = .ok (.iload 5, 2) := by decide +kernel
theorem dL_acts_215 : decode cL_acts 215 = .ok (.aload_n 1, 1) := by decide +kernel
theorem dL_acts_216 : decode cL_acts 216 = .ok (.getfield 208, 3) := by decide +kernel
theorem dL_acts_219 : decode cL_acts 219 = .ok (.if_icmp .lt 5, 3) := by decide +kernel
theorem dL_acts_222 : decode cL_acts 222 = .ok (.iconst 1, 1) := by decide +kernel
theorem dL_acts_223 : decode cL_acts 223 = .ok (.ireturn, 1) := by decide +kernel
theorem dL_acts_224 : decode cL_acts 224 = .ok (.aload_n 1, 1) := by decide +kernel
theorem dL_acts_225 : decode cL_acts 225 = .ok (.getfield 211, 3) := by decide +kernel
theorem dL_acts_228 : decode cL_acts 228 = .ok (.iload 5, 2) := by decide +kernel
theorem dL_acts_230 : decode cL_acts 230 = .ok (.baload, 1) := by decide +kernel
theorem dL_acts_231 : decode cL_acts 231 = .ok (.ifCond .eq 8, 3) := by decide +kernel
theorem dL_acts_234 : decode cL_acts 234 = .ok (.bipush (-3), 2) := by decide +kernel
theorem dL_acts_236 : decode cL_acts 236 = .ok (.goto 9, 3) := by decide +kernel
theorem dL_acts_239 : decode cL_acts 239 = .ok (.aload_n 1, 1) := by decide +kernel
theorem dL_acts_240 : decode cL_acts 240 = .ok (.iload 5, 2) := by decide +kernel
theorem dL_acts_242 : decode cL_acts 242 = .ok (.invokevirtual 215, 3) := by decide +kernel
theorem dL_acts_245 : decode cL_acts 245 = .ok (.istore 6, 2) := by decide +kernel
theorem dL_acts_247 : decode cL_acts 247 = .ok (.aload_n 1, 1) := by decide +kernel
theorem dL_acts_248 : decode cL_acts 248 = .ok (.getfield 211, 3) := by decide +kernel
theorem dL_acts_251 : decode cL_acts 251 = .ok (.iload 5, 2) := by decide +kernel
theorem dL_acts_253 : decode cL_acts 253 = .ok (.baload, 1) := by decide +kernel
theorem dL_acts_254 : decode cL_acts 254 = .ok (.ifCond .ne 9, 3) := by decide +kernel
theorem dL_acts_257 : decode cL_acts 257 = .ok (.aload_n 1, 1) := by decide +kernel
theorem dL_acts_258 : decode cL_acts 258 = .ok (.iload 5, 2) := by decide +kernel
theorem dL_acts_260 : decode cL_acts 260 = .ok (.invokevirtual 216, 3) := by decide +kernel
theorem dL_acts_263 : decode cL_acts 263 = .ok (.aload_n 0, 1) := by decide +kernel
theorem dL_acts_264 : decode cL_acts 264 = .ok (.iload 5, 2) := by decide +kernel
theorem dL_acts_266 : decode cL_acts 266 = .ok (.invokestatic 220, 3) := by decide +kernel
theorem dL_acts_269 : decode cL_acts 269 = .ok (.iload 6, 2) := by decide +kernel
theorem dL_acts_271 : decode cL_acts 271 = .ok (.if_icmp .ne 7, 3) := by decide +kernel
theorem dL_acts_274 : decode cL_acts 274 = .ok (.iconst 1, 1) := by decide +kernel
theorem dL_acts_275 : decode cL_acts 275 = .ok (.goto 4, 3) := by decide +kernel
theorem dL_acts_278 : decode cL_acts 278 = .ok (.iconst 0, 1) := by decide +kernel
theorem dL_acts_279 : decode cL_acts 279 = .ok (.ireturn, 1) := by decide +kernel
theorem dL_acts_280 : decode cL_acts 280 = .ok (.iconst 1, 1) := by decide +kernel
theorem dL_acts_281 : decode cL_acts 281 = .ok (.aload_n 2, 1) := by decide +kernel
theorem dL_acts_282 : decode cL_acts 282 = .ok (.iconst 4, 1) := by decide +kernel
theorem dL_acts_283 : decode cL_acts 283 = .ok (.invokestatic 35, 3) := by decide +kernel
theorem dL_acts_286 : decode cL_acts 286 = .ok (.iadd, 1) := by decide +kernel
theorem dL_acts_287 : decode cL_acts 287 = .ok (.istore 5, 2) := by decide +kernel
theorem dL_acts_289 : decode cL_acts 289 = .ok (.aload_n 1, 1) := by decide +kernel
theorem dL_acts_290 : decode cL_acts 290 = .ok (.getfield 223, 3) := by decide +kernel
theorem dL_acts_293 : decode cL_acts 293 = .ok (.istore 6, 2) := by decide +kernel
theorem dL_acts_295 : decode cL_acts 295 = .ok (.iconst 0, 1) := by decide +kernel
theorem dL_acts_296 : decode cL_acts 296 = .ok (.istore 7, 2) := by decide +kernel
theorem dL_acts_298 : decode cL_acts 298 = .ok (.iload 7, 2) := by decide +kernel
theorem dL_acts_300 : decode cL_acts 300 = .ok (.iload 5, 2) := by decide +kernel
theorem dL_acts_302 : decode cL_acts 302 = .ok (.if_icmp .ge 13, 3) := by decide +kernel
theorem dL_acts_305 : decode cL_acts 305 = .ok (.aload_n 1, 1) := by decide +kernel
theorem dL_acts_306 : decode cL_acts 306 = .ok (.invokevirtual 226, 3) := by decide +kernel
theorem dL_acts_309 : decode cL_acts 309 = .ok (.iinc 7 1, 3) := by decide +kernel
theorem dL_acts_312 : decode cL_acts 312 = .ok (.goto (-14), 3) := by decide +kernel
theorem dL_acts_315 : decode cL_acts 315 = .ok (.aload_n 0, 1) := by decide +kernel
theorem dL_acts_316 : decode cL_acts 316 = .ok (.iload 5, 2) := by decide +kernel
theorem dL_acts_318 : decode cL_acts 318 = .ok (.invokevirtual 229, 3) := by decide +kernel
theorem dL_acts_321 : decode cL_acts 321 = .ok (.aload_n 1, 1) := by decide +kernel
theorem dL_acts_322 : decode cL_acts 322 = .ok (.getfield 223, 3) := by decide +kernel
theorem dL_acts_325 : decode cL_acts 325 = .ok (.iload 6, 2) := by decide +kernel
theorem dL_acts_327 : decode cL_acts 327 = .ok (.isub, 1) := by decide +kernel
theorem dL_acts_328 : decode cL_acts 328 = .ok (.if_icmp .ne 7, 3) := by decide +kernel
theorem dL_acts_331 : decode cL_acts 331 = .ok (.iconst 1, 1) := by decide +kernel
theorem dL_acts_332 : decode cL_acts 332 = .ok (.goto 4, 3) := by decide +kernel
theorem dL_acts_335 : decode cL_acts 335 = .ok (.iconst 0, 1) := by decide +kernel
theorem dL_acts_336 : decode cL_acts 336 = .ok (.ireturn, 1) := by decide +kernel
theorem dL_mutes_0 : decode cL_mutes 0 = .ok (.aload_n 0, 1) := by decide +kernel
theorem dL_mutes_1 : decode cL_mutes 1 = .ok (.iload_n 1, 1) := by decide +kernel
theorem dL_mutes_2 : decode cL_mutes 2 = .ok (.invokevirtual 231, 3) := by decide +kernel
theorem dL_mutes_5 : decode cL_mutes 5 = .ok (.ireturn, 1) := by decide +kernel
theorem dL_mutes_6 : decode cL_mutes 6 = .ok (.astore_n 2, 1) := by decide +kernel
theorem dL_mutes_7 : decode cL_mutes 7 = .ok (.bipush (-3), 2) := by decide +kernel
theorem dL_mutes_9 : decode cL_mutes 9 = .ok (.ireturn, 1) := by decide +kernel
theorem dL_unmutes_0 : decode cL_unmutes 0 = .ok (.aload_n 0, 1) := by decide +kernel
theorem dL_unmutes_1 : decode cL_unmutes 1 = .ok (.iload_n 1, 1) := by decide +kernel
theorem dL_unmutes_2 : decode cL_unmutes 2 = .ok (.invokevirtual 234, 3) := by decide +kernel
theorem dL_unmutes_5 : decode cL_unmutes 5 = .ok (.ireturn, 1) := by decide +kernel
theorem dL_unmutes_6 : decode cL_unmutes 6 = .ok (.astore_n 2, 1) := by decide +kernel
theorem dL_unmutes_7 : decode cL_unmutes 7 = .ok (.bipush (-3), 2) := by decide +kernel
theorem dL_unmutes_9 : decode cL_unmutes 9 = .ok (.ireturn, 1) := by decide +kernel
theorem dL_retracts_0 : decode cL_retracts 0 = .ok (.aload_n 0, 1) := by decide +kernel
theorem dL_retracts_1 : decode cL_retracts 1 = .ok (.iload_n 1, 1) := by decide +kernel
theorem dL_retracts_2 : decode cL_retracts 2 = .ok (.invokevirtual 237, 3) := by decide +kernel
theorem dL_retracts_5 : decode cL_retracts 5 = .ok (.ireturn, 1) := by decide +kernel
theorem dL_retracts_6 : decode cL_retracts 6 = .ok (.astore_n 2, 1) := by decide +kernel
theorem dL_retracts_7 : decode cL_retracts 7 = .ok (.bipush (-3), 2) := by decide +kernel
theorem dL_retracts_9 : decode cL_retracts 9 = .ok (.ireturn, 1) := by decide +kernel
theorem dL_agrees_0 : decode cL_agrees 0 = .ok (.aload_n 0, 1) := by decide +kernel
theorem dL_agrees_1 : decode cL_agrees 1 = .ok (.invokevirtual 239, 3) := by decide +kernel
theorem dL_agrees_4 : decode cL_agrees 4 = .ok (.aload_n 1, 1) := by decide +kernel
theorem dL_agrees_5 : decode cL_agrees 5 = .ok (.getfield 242, 3) := by decide +kernel
theorem dL_agrees_8 : decode cL_agrees 8 = .ok (.if_icmp .ne 27, 3) := by decide +kernel
theorem dL_agrees_11 : decode cL_agrees 11 = .ok (.aload_n 0, 1) := by decide +kernel
theorem dL_agrees_12 : decode cL_agrees 12 = .ok (.iconst 3, 1) := by decide +kernel
theorem dL_agrees_13 : decode cL_agrees 13 = .ok (.invokevirtual 156, 3) := by decide +kernel
theorem dL_agrees_16 : decode cL_agrees 16 = .ok (.aload_n 1, 1) := by decide +kernel
theorem dL_agrees_17 : decode cL_agrees 17 = .ok (.getfield 223, 3) := by decide +kernel
theorem dL_agrees_20 : decode cL_agrees 20 = .ok (.if_icmp .ne 15, 3) := by decide +kernel
theorem dL_agrees_23 : decode cL_agrees 23 = .ok (.aload_n 0, 1) := by decide +kernel
theorem dL_agrees_24 : decode cL_agrees 24 = .ok (.iconst 4, 1) := by decide +kernel
theorem dL_agrees_25 : decode cL_agrees 25 = .ok (.invokevirtual 156, 3) := by decide +kernel
theorem dL_agrees_28 : decode cL_agrees 28 = .ok (.aload_n 1, 1) := by decide +kernel
theorem dL_agrees_29 : decode cL_agrees 29 = .ok (.getfield 208, 3) := by decide +kernel
theorem dL_agrees_32 : decode cL_agrees 32 = .ok (.if_icmp .eq 5, 3) := by decide +kernel
theorem dL_agrees_35 : decode cL_agrees 35 = .ok (.iconst 0, 1) := by decide +kernel
theorem dL_agrees_36 : decode cL_agrees 36 = .ok (.ireturn, 1) := by decide +kernel
theorem dL_agrees_37 : decode cL_agrees 37 = .ok (.iconst 0, 1) := by decide +kernel
theorem dL_agrees_38 : decode cL_agrees 38 = .ok (.istore_n 2, 1) := by decide +kernel
theorem dL_agrees_39 : decode cL_agrees 39 = .ok (.iconst 0, 1) := by decide +kernel
theorem dL_agrees_40 : decode cL_agrees 40 = .ok (.istore_n 3, 1) := by decide +kernel
theorem dL_agrees_41 : decode cL_agrees 41 = .ok (.iload_n 3, 1) := by decide +kernel
theorem dL_agrees_42 : decode cL_agrees 42 = .ok (.aload_n 1, 1) := by decide +kernel
theorem dL_agrees_43 : decode cL_agrees 43 = .ok (.getfield 39, 3) := by decide +kernel
theorem dL_agrees_46 : decode cL_agrees 46 = .ok (.if_icmp .ge 160, 3) := by decide +kernel
theorem dL_agrees_49 : decode cL_agrees 49 = .ok (.aload_n 1, 1) := by decide +kernel
theorem dL_agrees_50 : decode cL_agrees 50 = .ok (.getfield 43, 3) := by decide +kernel
theorem dL_agrees_53 : decode cL_agrees 53 = .ok (.iload_n 3, 1) := by decide +kernel
theorem dL_agrees_54 : decode cL_agrees 54 = .ok (.aaload, 1) := by decide +kernel
theorem dL_agrees_55 : decode cL_agrees 55 = .ok (.astore 4, 2) := by decide +kernel
theorem dL_agrees_57 : decode cL_agrees 57 = .ok (.aload 4, 2) := by decide +kernel
theorem dL_agrees_59 : decode cL_agrees 59 = .ok (.getfield 244, 3) := by decide +kernel
theorem dL_agrees_62 : decode cL_agrees 62 = .ok (.ifCond .eq 6, 3) := by decide +kernel
theorem dL_agrees_65 : decode cL_agrees 65 = .ok (.iinc 2 1, 3) := by decide +kernel
theorem dL_agrees_68 : decode cL_agrees 68 = .ok (.bipush 8, 2) := by decide +kernel
theorem dL_agrees_70 : decode cL_agrees 70 = .ok (.newarray .int, 2) := by decide +kernel
theorem dL_agrees_72 : decode cL_agrees 72 = .ok (.dup, 1) := by decide +kernel
theorem dL_agrees_73 : decode cL_agrees 73 = .ok (.iconst 0, 1) := by decide +kernel
theorem dL_agrees_74 : decode cL_agrees 74 = .ok (.aload 4, 2) := by decide +kernel
theorem dL_agrees_76 : decode cL_agrees 76 = .ok (.getfield 50, 3) := by decide +kernel
theorem dL_agrees_79 : decode cL_agrees 79 = .ok (.iastore, 1) := by decide +kernel
theorem dL_agrees_80 : decode cL_agrees 80 = .ok (.dup, 1) := by decide +kernel
theorem dL_agrees_81 : decode cL_agrees 81 = .ok (.iconst 1, 1) := by decide +kernel
theorem dL_agrees_82 : decode cL_agrees 82 = .ok (.aload 4, 2) := by decide +kernel
theorem dL_agrees_84 : decode cL_agrees 84 = .ok (.getfield 53, 3) := by decide +kernel
theorem dL_agrees_87 : decode cL_agrees 87 = .ok (.iastore, 1) := by decide +kernel
theorem dL_agrees_88 : decode cL_agrees 88 = .ok (.dup, 1) := by decide +kernel
theorem dL_agrees_89 : decode cL_agrees 89 = .ok (.iconst 2, 1) := by decide +kernel
theorem dL_agrees_90 : decode cL_agrees 90 = .ok (.aload 4, 2) := by decide +kernel
theorem dL_agrees_92 : decode cL_agrees 92 = .ok (.getfield 184, 3) := by decide +kernel
theorem dL_agrees_95 : decode cL_agrees 95 = .ok (.iastore, 1) := by decide +kernel
theorem dL_agrees_96 : decode cL_agrees 96 = .ok (.dup, 1) := by decide +kernel
theorem dL_agrees_97 : decode cL_agrees 97 = .ok (.iconst 3, 1) := by decide +kernel
theorem dL_agrees_98 : decode cL_agrees 98 = .ok (.aload_n 1, 1) := by decide +kernel
theorem dL_agrees_99 : decode cL_agrees 99 = .ok (.aload 4, 2) := by decide +kernel
theorem dL_agrees_101 : decode cL_agrees 101 = .ok (.aload_n 1, 1) := by decide +kernel
theorem dL_agrees_102 : decode cL_agrees 102 = .ok (.getfield 87, 3) := by decide +kernel
theorem dL_agrees_105 : decode cL_agrees 105 = .ok (.invokevirtual 246, 3) := by decide +kernel
theorem dL_agrees_108 : decode cL_agrees 108 = .ok (.iastore, 1) := by decide +kernel
theorem dL_agrees_109 : decode cL_agrees 109 = .ok (.dup, 1) := by decide +kernel
theorem dL_agrees_110 : decode cL_agrees 110 = .ok (.iconst 4, 1) := by decide +kernel
theorem dL_agrees_111 : decode cL_agrees 111 = .ok (.aload_n 1, 1) := by decide +kernel
theorem dL_agrees_112 : decode cL_agrees 112 = .ok (.aload 4, 2) := by decide +kernel
theorem dL_agrees_114 : decode cL_agrees 114 = .ok (.aload_n 1, 1) := by decide +kernel
theorem dL_agrees_115 : decode cL_agrees 115 = .ok (.getfield 90, 3) := by decide +kernel
theorem dL_agrees_118 : decode cL_agrees 118 = .ok (.invokevirtual 246, 3) := by decide +kernel
theorem dL_agrees_121 : decode cL_agrees 121 = .ok (.iastore, 1) := by decide +kernel
theorem dL_agrees_122 : decode cL_agrees 122 = .ok (.dup, 1) := by decide +kernel
theorem dL_agrees_123 : decode cL_agrees 123 = .ok (.iconst 5, 1) := by decide +kernel
theorem dL_agrees_124 : decode cL_agrees 124 = .ok (.aload_n 1, 1) := by decide +kernel
theorem dL_agrees_125 : decode cL_agrees 125 = .ok (.aload 4, 2) := by decide +kernel
theorem dL_agrees_127 : decode cL_agrees 127 = .ok (.invokevirtual 201, 3) := by decide +kernel
theorem dL_agrees_130 : decode cL_agrees 130 = .ok (.iastore, 1) := by decide +kernel
theorem dL_agrees_131 : decode cL_agrees 131 = .ok (.dup, 1) := by decide +kernel
theorem dL_agrees_132 : decode cL_agrees 132 = .ok (.bipush 6, 2) := by decide +kernel
theorem dL_agrees_134 : decode cL_agrees 134 = .ok (.aload 4, 2) := by decide +kernel
theorem dL_agrees_136 : decode cL_agrees 136 = .ok (.getfield 244, 3) := by decide +kernel
theorem dL_agrees_139 : decode cL_agrees 139 = .ok (.ifCond .eq 7, 3) := by decide +kernel
theorem dL_agrees_142 : decode cL_agrees 142 = .ok (.iconst 1, 1) := by decide +kernel
theorem dL_agrees_143 : decode cL_agrees 143 = .ok (.goto 4, 3) := by decide +kernel
theorem dL_agrees_146 : decode cL_agrees 146 = .ok (.iconst 0, 1) := by decide +kernel
theorem dL_agrees_147 : decode cL_agrees 147 = .ok (.iastore, 1) := by decide +kernel
theorem dL_agrees_148 : decode cL_agrees 148 = .ok (.dup, 1) := by decide +kernel
theorem dL_agrees_149 : decode cL_agrees 149 = .ok (.bipush 7, 2) := by decide +kernel
theorem dL_agrees_151 : decode cL_agrees 151 = .ok (.aload 4, 2) := by decide +kernel
theorem dL_agrees_153 : decode cL_agrees 153 = .ok (.getfield 190, 3) := by decide +kernel
theorem dL_agrees_156 : decode cL_agrees 156 = .ok (.ifCond .eq 7, 3) := by decide +kernel
theorem dL_agrees_159 : decode cL_agrees 159 = .ok (.iconst 1, 1) := by decide +kernel
theorem dL_agrees_160 : decode cL_agrees 160 = .ok (.goto 4, 3) := by decide +kernel
theorem dL_agrees_163 : decode cL_agrees 163 = .ok (.iconst 0, 1) := by decide +kernel
theorem dL_agrees_164 : decode cL_agrees 164 = .ok (.iastore, 1) := by decide +kernel
theorem dL_agrees_165 : decode cL_agrees 165 = .ok (.astore 5, 2) := by decide +kernel
theorem dL_agrees_167 : decode cL_agrees 167 = .ok (.iconst 0, 1) := by decide +kernel
theorem dL_agrees_168 : decode cL_agrees 168 = .ok (.istore 6, 2) := by decide +kernel
theorem dL_agrees_170 : decode cL_agrees 170 = .ok (.iload 6, 2) := by decide +kernel
theorem dL_agrees_172 : decode cL_agrees 172 = .ok (.bipush 8, 2) := by decide +kernel
theorem dL_agrees_174 : decode cL_agrees 174 = .ok (.if_icmp .ge 26, 3) := by decide +kernel
theorem dL_agrees_177 : decode cL_agrees 177 = .ok (.aload_n 0, 1) := by decide +kernel
theorem dL_agrees_178 : decode cL_agrees 178 = .ok (.iload_n 3, 1) := by decide +kernel
theorem dL_agrees_179 : decode cL_agrees 179 = .ok (.iload 6, 2) := by decide +kernel
theorem dL_agrees_181 : decode cL_agrees 181 = .ok (.invokevirtual 250, 3) := by decide +kernel
theorem dL_agrees_184 : decode cL_agrees 184 = .ok (.aload 5, 2) := by decide +kernel
theorem dL_agrees_186 : decode cL_agrees 186 = .ok (.iload 6, 2) := by decide +kernel
theorem dL_agrees_188 : decode cL_agrees 188 = .ok (.iaload, 1) := by decide +kernel
theorem dL_agrees_189 : decode cL_agrees 189 = .ok (.if_icmp .eq 5, 3) := by decide +kernel
theorem dL_agrees_192 : decode cL_agrees 192 = .ok (.iconst 0, 1) := by decide +kernel
theorem dL_agrees_193 : decode cL_agrees 193 = .ok (.ireturn, 1) := by decide +kernel
theorem dL_agrees_194 : decode cL_agrees 194 = .ok (.iinc 6 1, 3) := by decide +kernel
theorem dL_agrees_197 : decode cL_agrees 197 = .ok (.goto (-27), 3) := by decide +kernel
theorem dL_agrees_200 : decode cL_agrees 200 = .ok (.iinc 3 1, 3) := by decide +kernel
theorem dL_agrees_203 : decode cL_agrees 203 = .ok (.goto (-162), 3) := by decide +kernel
theorem dL_agrees_206 : decode cL_agrees 206 = .ok (.aload_n 0, 1) := by decide +kernel
theorem dL_agrees_207 : decode cL_agrees 207 = .ok (.invokevirtual 253, 3) := by decide +kernel
theorem dL_agrees_210 : decode cL_agrees 210 = .ok (.iload_n 2, 1) := by decide +kernel
theorem dL_agrees_211 : decode cL_agrees 211 = .ok (.if_icmp .eq 5, 3) := by decide +kernel
theorem dL_agrees_214 : decode cL_agrees 214 = .ok (.iconst 0, 1) := by decide +kernel
theorem dL_agrees_215 : decode cL_agrees 215 = .ok (.ireturn, 1) := by decide +kernel
theorem dL_agrees_216 : decode cL_agrees 216 = .ok (.iconst 0, 1) := by decide +kernel
theorem dL_agrees_217 : decode cL_agrees 217 = .ok (.istore_n 3, 1) := by decide +kernel
theorem dL_agrees_218 : decode cL_agrees 218 = .ok (.iload_n 3, 1) := by decide +kernel
theorem dL_agrees_219 : decode cL_agrees 219 = .ok (.aload_n 1, 1) := by decide +kernel
theorem dL_agrees_220 : decode cL_agrees 220 = .ok (.getfield 223, 3) := by decide +kernel
theorem dL_agrees_223 : decode cL_agrees 223 = .ok (.if_icmp .ge 118, 3) := by decide +kernel
theorem dL_agrees_226 : decode cL_agrees 226 = .ok (.aload_n 1, 1) := by decide +kernel
theorem dL_agrees_227 : decode cL_agrees 227 = .ok (.getfield 256, 3) := by decide +kernel
theorem dL_agrees_230 : decode cL_agrees 230 = .ok (.iload_n 3, 1) := by decide +kernel
theorem dL_agrees_231 : decode cL_agrees 231 = .ok (.aaload, 1) := by decide +kernel
theorem dL_agrees_232 : decode cL_agrees 232 = .ok (.astore 4, 2) := by decide +kernel
theorem dL_agrees_234 : decode cL_agrees 234 = .ok (.aload_n 0, 1) := by decide +kernel
theorem dL_agrees_235 : decode cL_agrees 235 = .ok (.iload_n 3, 1) := by decide +kernel
theorem dL_agrees_236 : decode cL_agrees 236 = .ok (.iconst 0, 1) := by decide +kernel
theorem dL_agrees_237 : decode cL_agrees 237 = .ok (.invokevirtual 260, 3) := by decide +kernel
theorem dL_agrees_240 : decode cL_agrees 240 = .ok (.aload 4, 2) := by decide +kernel
theorem dL_agrees_242 : decode cL_agrees 242 = .ok (.getfield 263, 3) := by decide +kernel
theorem dL_agrees_245 : decode cL_agrees 245 = .ok (.if_icmp .ne 88, 3) := by decide +kernel
theorem dL_agrees_248 : decode cL_agrees 248 = .ok (.aload_n 0, 1) := by decide +kernel
theorem dL_agrees_249 : decode cL_agrees 249 = .ok (.iload_n 3, 1) := by decide +kernel
theorem dL_agrees_250 : decode cL_agrees 250 = .ok (.iconst 1, 1) := by decide +kernel
theorem dL_agrees_251 : decode cL_agrees 251 = .ok (.invokevirtual 260, 3) := by decide +kernel
theorem dL_agrees_254 : decode cL_agrees 254 = .ok (.aload 4, 2) := by decide +kernel
theorem dL_agrees_256 : decode cL_agrees 256 = .ok (.getfield 267, 3) := by decide +kernel
theorem dL_agrees_259 : decode cL_agrees 259 = .ok (.if_icmp .ne 74, 3) := by decide +kernel
theorem dL_agrees_262 : decode cL_agrees 262 = .ok (.aload_n 0, 1) := by decide +kernel
theorem dL_agrees_263 : decode cL_agrees 263 = .ok (.iload_n 3, 1) := by decide +kernel
theorem dL_agrees_264 : decode cL_agrees 264 = .ok (.iconst 2, 1) := by decide +kernel
theorem dL_agrees_265 : decode cL_agrees 265 = .ok (.invokevirtual 260, 3) := by decide +kernel
theorem dL_agrees_268 : decode cL_agrees 268 = .ok (.aload 4, 2) := by decide +kernel
theorem dL_agrees_270 : decode cL_agrees 270 = .ok (.getfield 269, 3) := by decide +kernel
theorem dL_agrees_273 : decode cL_agrees 273 = .ok (.if_icmp .ne 60, 3) := by decide +kernel
theorem dL_agrees_276 : decode cL_agrees 276 = .ok (.aload_n 0, 1) := by decide +kernel
theorem dL_agrees_277 : decode cL_agrees 277 = .ok (.iload_n 3, 1) := by decide +kernel
theorem dL_agrees_278 : decode cL_agrees 278 = .ok (.iconst 3, 1) := by decide +kernel
theorem dL_agrees_279 : decode cL_agrees 279 = .ok (.invokevirtual 260, 3) := by decide +kernel
theorem dL_agrees_282 : decode cL_agrees 282 = .ok (.aload 4, 2) := by decide +kernel
theorem dL_agrees_284 : decode cL_agrees 284 = .ok (.getfield 272, 3) := by decide +kernel
theorem dL_agrees_287 : decode cL_agrees 287 = .ok (.if_icmp .ne 46, 3) := by decide +kernel
theorem dL_agrees_290 : decode cL_agrees 290 = .ok (.aload_n 0, 1) := by decide +kernel
theorem dL_agrees_291 : decode cL_agrees 291 = .ok (.iload_n 3, 1) := by decide +kernel
theorem dL_agrees_292 : decode cL_agrees 292 = .ok (.iconst 4, 1) := by decide +kernel
theorem dL_agrees_293 : decode cL_agrees 293 = .ok (.invokevirtual 260, 3) := by decide +kernel
theorem dL_agrees_296 : decode cL_agrees 296 = .ok (.aload 4, 2) := by decide +kernel
theorem dL_agrees_298 : decode cL_agrees 298 = .ok (.getfield 275, 3) := by decide +kernel
theorem dL_agrees_301 : decode cL_agrees 301 = .ok (.ifCond .eq 7, 3) := by decide +kernel
theorem dL_agrees_304 : decode cL_agrees 304 = .ok (.iconst 1, 1) := by decide +kernel
theorem dL_agrees_305 : decode cL_agrees 305 = .ok (.goto 4, 3) := by decide +kernel
theorem dL_agrees_308 : decode cL_agrees 308 = .ok (.iconst 0, 1) := by decide +kernel
theorem dL_agrees_309 : decode cL_agrees 309 = .ok (.if_icmp .ne 24, 3) := by decide +kernel
theorem dL_agrees_312 : decode cL_agrees 312 = .ok (.aload_n 0, 1) := by decide +kernel
theorem dL_agrees_313 : decode cL_agrees 313 = .ok (.iload_n 3, 1) := by decide +kernel
theorem dL_agrees_314 : decode cL_agrees 314 = .ok (.iconst 0, 1) := by decide +kernel
theorem dL_agrees_315 : decode cL_agrees 315 = .ok (.invokevirtual 278, 3) := by decide +kernel
theorem dL_agrees_318 : decode cL_agrees 318 = .ok (.aload_n 1, 1) := by decide +kernel
theorem dL_agrees_319 : decode cL_agrees 319 = .ok (.aload 4, 2) := by decide +kernel
theorem dL_agrees_321 : decode cL_agrees 321 = .ok (.aload_n 1, 1) := by decide +kernel
theorem dL_agrees_322 : decode cL_agrees 322 = .ok (.getfield 256, 3) := by decide +kernel
theorem dL_agrees_325 : decode cL_agrees 325 = .ok (.iconst 0, 1) := by decide +kernel
theorem dL_agrees_326 : decode cL_agrees 326 = .ok (.aaload, 1) := by decide +kernel
theorem dL_agrees_327 : decode cL_agrees 327 = .ok (.invokevirtual 282, 3) := by decide +kernel
theorem dL_agrees_330 : decode cL_agrees 330 = .ok (.if_icmp .eq 5, 3) := by decide +kernel
theorem dL_agrees_333 : decode cL_agrees 333 = .ok (.iconst 0, 1) := by decide +kernel
theorem dL_agrees_334 : decode cL_agrees 334 = .ok (.ireturn, 1) := by decide +kernel
theorem dL_agrees_335 : decode cL_agrees 335 = .ok (.iinc 3 1, 3) := by decide +kernel
theorem dL_agrees_338 : decode cL_agrees 338 = .ok (.goto (-120), 3) := by decide +kernel
theorem dL_agrees_341 : decode cL_agrees 341 = .ok (.iconst 0, 1) := by decide +kernel
theorem dL_agrees_342 : decode cL_agrees 342 = .ok (.istore_n 3, 1) := by decide +kernel
theorem dL_agrees_343 : decode cL_agrees 343 = .ok (.iconst 0, 1) := by decide +kernel
theorem dL_agrees_344 : decode cL_agrees 344 = .ok (.istore 4, 2) := by decide +kernel
theorem dL_agrees_346 : decode cL_agrees 346 = .ok (.iload 4, 2) := by decide +kernel
theorem dL_agrees_348 : decode cL_agrees 348 = .ok (.aload_n 1, 1) := by decide +kernel
theorem dL_agrees_349 : decode cL_agrees 349 = .ok (.getfield 208, 3) := by decide +kernel
theorem dL_agrees_352 : decode cL_agrees 352 = .ok (.if_icmp .ge 195, 3) := by decide +kernel
theorem dL_agrees_355 : decode cL_agrees 355 = .ok (.aload_n 0, 1) := by decide +kernel
theorem dL_agrees_356 : decode cL_agrees 356 = .ok (.iload 4, 2) := by decide +kernel
theorem dL_agrees_358 : decode cL_agrees 358 = .ok (.iconst 0, 1) := by decide +kernel
theorem dL_agrees_359 : decode cL_agrees 359 = .ok (.invokevirtual 286, 3) := by decide +kernel
theorem dL_agrees_362 : decode cL_agrees 362 = .ok (.aload_n 1, 1) := by decide +kernel
theorem dL_agrees_363 : decode cL_agrees 363 = .ok (.getfield 211, 3) := by decide +kernel
theorem dL_agrees_366 : decode cL_agrees 366 = .ok (.iload 4, 2) := by decide +kernel
theorem dL_agrees_368 : decode cL_agrees 368 = .ok (.baload, 1) := by decide +kernel
theorem dL_agrees_369 : decode cL_agrees 369 = .ok (.ifCond .eq 7, 3) := by decide +kernel
theorem dL_agrees_372 : decode cL_agrees 372 = .ok (.iconst 1, 1) := by decide +kernel
theorem dL_agrees_373 : decode cL_agrees 373 = .ok (.goto 4, 3) := by decide +kernel
theorem dL_agrees_376 : decode cL_agrees 376 = .ok (.iconst 0, 1) := by decide +kernel
theorem dL_agrees_377 : decode cL_agrees 377 = .ok (.if_icmp .ne 36, 3) := by decide +kernel
theorem dL_agrees_380 : decode cL_agrees 380 = .ok (.aload_n 0, 1) := by decide +kernel
theorem dL_agrees_381 : decode cL_agrees 381 = .ok (.iload 4, 2) := by decide +kernel
theorem dL_agrees_383 : decode cL_agrees 383 = .ok (.iconst 1, 1) := by decide +kernel
theorem dL_agrees_384 : decode cL_agrees 384 = .ok (.invokevirtual 286, 3) := by decide +kernel
theorem dL_agrees_387 : decode cL_agrees 387 = .ok (.aload_n 1, 1) := by decide +kernel
theorem dL_agrees_388 : decode cL_agrees 388 = .ok (.iload 4, 2) := by decide +kernel
theorem dL_agrees_390 : decode cL_agrees 390 = .ok (.invokevirtual 215, 3) := by decide +kernel
theorem dL_agrees_393 : decode cL_agrees 393 = .ok (.if_icmp .ne 20, 3) := by decide +kernel
theorem dL_agrees_396 : decode cL_agrees 396 = .ok (.aload_n 0, 1) := by decide +kernel
theorem dL_agrees_397 : decode cL_agrees 397 = .ok (.iload 4, 2) := by decide +kernel
theorem dL_agrees_399 : decode cL_agrees 399 = .ok (.iconst 2, 1) := by decide +kernel
theorem dL_agrees_400 : decode cL_agrees 400 = .ok (.invokevirtual 286, 3) := by decide +kernel
theorem dL_agrees_403 : decode cL_agrees 403 = .ok (.aload_n 1, 1) := by decide +kernel
theorem dL_agrees_404 : decode cL_agrees 404 = .ok (.getfield 288, 3) := by decide +kernel
theorem dL_agrees_407 : decode cL_agrees 407 = .ok (.iload 4, 2) := by decide +kernel
theorem dL_agrees_409 : decode cL_agrees 409 = .ok (.iaload, 1) := by decide +kernel
theorem dL_agrees_410 : decode cL_agrees 410 = .ok (.if_icmp .eq 5, 3) := by decide +kernel
theorem dL_agrees_413 : decode cL_agrees 413 = .ok (.iconst 0, 1) := by decide +kernel
theorem dL_agrees_414 : decode cL_agrees 414 = .ok (.ireturn, 1) := by decide +kernel
theorem dL_agrees_415 : decode cL_agrees 415 = .ok (.aload_n 1, 1) := by decide +kernel
theorem dL_agrees_416 : decode cL_agrees 416 = .ok (.getfield 211, 3) := by decide +kernel
theorem dL_agrees_419 : decode cL_agrees 419 = .ok (.iload 4, 2) := by decide +kernel
theorem dL_agrees_421 : decode cL_agrees 421 = .ok (.baload, 1) := by decide +kernel
theorem dL_agrees_422 : decode cL_agrees 422 = .ok (.ifCond .eq 7, 3) := by decide +kernel
theorem dL_agrees_425 : decode cL_agrees 425 = .ok (.iconst (-1), 1) := by decide +kernel
theorem dL_agrees_426 : decode cL_agrees 426 = .ok (.goto 9, 3) := by decide +kernel
theorem dL_agrees_429 : decode cL_agrees 429 = .ok (.aload_n 1, 1) := by decide +kernel
theorem dL_agrees_430 : decode cL_agrees 430 = .ok (.iload 4, 2) := by decide +kernel
theorem dL_agrees_432 : decode cL_agrees 432 = .ok (.invokevirtual 291, 3) := by decide +kernel
theorem dL_agrees_435 : decode cL_agrees 435 = .ok (.istore 5, 2) := by decide +kernel
theorem dL_agrees_437 : decode cL_agrees 437 = .ok (.aload_n 0, 1) := by decide +kernel
theorem dL_agrees_438 : decode cL_agrees 438 = .ok (.iload 4, 2) := by decide +kernel
theorem dL_agrees_440 : decode cL_agrees 440 = .ok (.iconst 3, 1) := by decide +kernel
theorem dL_agrees_441 : decode cL_agrees 441 = .ok (.invokevirtual 286, 3) := by decide +kernel
theorem dL_agrees_444 : decode cL_agrees 444 = .ok (.iload 5, 2) := by decide +kernel
theorem dL_agrees_446 : decode cL_agrees 446 = .ok (.if_icmp .eq 5, 3) := by decide +kernel
theorem dL_agrees_449 : decode cL_agrees 449 = .ok (.iconst 0, 1) := by decide +kernel
theorem dL_agrees_450 : decode cL_agrees 450 = .ok (.ireturn, 1) := by decide +kernel
theorem dL_agrees_451 : decode cL_agrees 451 = .ok (.aload_n 1, 1) := by decide +kernel
theorem dL_agrees_452 : decode cL_agrees 452 = .ok (.getfield 211, 3) := by decide +kernel
theorem dL_agrees_455 : decode cL_agrees 455 = .ok (.iload 4, 2) := by decide +kernel
theorem dL_agrees_457 : decode cL_agrees 457 = .ok (.baload, 1) := by decide +kernel
theorem dL_agrees_458 : decode cL_agrees 458 = .ok (.ifCond .eq 6, 3) := by decide +kernel
theorem dL_agrees_461 : decode cL_agrees 461 = .ok (.goto 80, 3) := by decide +kernel
theorem dL_agrees_464 : decode cL_agrees 464 = .ok (.iinc 3 1, 3) := by decide +kernel
theorem dL_agrees_467 : decode cL_agrees 467 = .ok (.aload_n 1, 1) := by decide +kernel
theorem dL_agrees_468 : decode cL_agrees 468 = .ok (.iload 5, 2) := by decide +kernel
theorem dL_agrees_470 : decode cL_agrees 470 = .ok (.iload 4, 2) := by decide +kernel
theorem dL_agrees_472 : decode cL_agrees 472 = .ok (.invokevirtual 294, 3) := by decide +kernel
theorem dL_agrees_475 : decode cL_agrees 475 = .ok (.astore 6, 2) := by decide +kernel
theorem dL_agrees_477 : decode cL_agrees 477 = .ok (.aload_n 0, 1) := by decide +kernel
theorem dL_agrees_478 : decode cL_agrees 478 = .ok (.iload 4, 2) := by decide +kernel
theorem dL_agrees_480 : decode cL_agrees 480 = .ok (.iconst 4, 1) := by decide +kernel
theorem dL_agrees_481 : decode cL_agrees 481 = .ok (.invokevirtual 286, 3) := by decide +kernel
theorem dL_agrees_484 : decode cL_agrees 484 = .ok (.aload 6, 2) := by decide +kernel
theorem dL_agrees_486 : decode cL_agrees 486 = .ok (.iconst 0, 1) := by decide +kernel
theorem dL_agrees_487 : decode cL_agrees 487 = .ok (.iaload, 1) := by decide +kernel
theorem dL_agrees_488 : decode cL_agrees 488 = .ok (.if_icmp .ne 51, 3) := by decide +kernel
theorem dL_agrees_491 : decode cL_agrees 491 = .ok (.aload_n 0, 1) := by decide +kernel
theorem dL_agrees_492 : decode cL_agrees 492 = .ok (.iload 4, 2) := by decide +kernel
theorem dL_agrees_494 : decode cL_agrees 494 = .ok (.iconst 5, 1) := by decide +kernel
theorem dL_agrees_495 : decode cL_agrees 495 = .ok (.invokevirtual 286, 3) := by decide +kernel
theorem dL_agrees_498 : decode cL_agrees 498 = .ok (.aload 6, 2) := by decide +kernel
theorem dL_agrees_500 : decode cL_agrees 500 = .ok (.iconst 1, 1) := by decide +kernel
theorem dL_agrees_501 : decode cL_agrees 501 = .ok (.iaload, 1) := by decide +kernel
theorem dL_agrees_502 : decode cL_agrees 502 = .ok (.if_icmp .ne 37, 3) := by decide +kernel
theorem dL_agrees_505 : decode cL_agrees 505 = .ok (.aload_n 0, 1) := by decide +kernel
theorem dL_agrees_506 : decode cL_agrees 506 = .ok (.iload 5, 2) := by decide +kernel
theorem dL_agrees_508 : decode cL_agrees 508 = .ok (.iload 4, 2) := by decide +kernel
theorem dL_agrees_510 : decode cL_agrees 510 = .ok (.invokevirtual 298, 3) := by decide +kernel
theorem dL_agrees_513 : decode cL_agrees 513 = .ok (.aload 6, 2) := by decide +kernel
theorem dL_agrees_515 : decode cL_agrees 515 = .ok (.iconst 1, 1) := by decide +kernel
theorem dL_agrees_516 : decode cL_agrees 516 = .ok (.iaload, 1) := by decide +kernel
theorem dL_agrees_517 : decode cL_agrees 517 = .ok (.if_icmp .ne 22, 3) := by decide +kernel
theorem dL_agrees_520 : decode cL_agrees 520 = .ok (.aload_n 0, 1) := by decide +kernel
theorem dL_agrees_521 : decode cL_agrees 521 = .ok (.iload 4, 2) := by decide +kernel
theorem dL_agrees_523 : decode cL_agrees 523 = .ok (.bipush 6, 2) := by decide +kernel
theorem dL_agrees_525 : decode cL_agrees 525 = .ok (.invokevirtual 286, 3) := by decide +kernel
theorem dL_agrees_528 : decode cL_agrees 528 = .ok (.aload_n 1, 1) := by decide +kernel
theorem dL_agrees_529 : decode cL_agrees 529 = .ok (.iload 4, 2) := by decide +kernel
theorem dL_agrees_531 : decode cL_agrees 531 = .ok (.iload 5, 2) := by decide +kernel
theorem dL_agrees_533 : decode cL_agrees 533 = .ok (.invokevirtual 301, 3) := by decide +kernel
theorem dL_agrees_536 : decode cL_agrees 536 = .ok (.if_icmp .eq 5, 3) := by decide +kernel
theorem dL_agrees_539 : decode cL_agrees 539 = .ok (.iconst 0, 1) := by decide +kernel
theorem dL_agrees_540 : decode cL_agrees 540 = .ok (.ireturn, 1) := by decide +kernel
theorem dL_agrees_541 : decode cL_agrees 541 = .ok (.iinc 4 1, 3) := by decide +kernel
theorem dL_agrees_544 : decode cL_agrees 544 = .ok (.goto (-198), 3) := by decide +kernel
theorem dL_agrees_547 : decode cL_agrees 547 = .ok (.aload_n 0, 1) := by decide +kernel
theorem dL_agrees_548 : decode cL_agrees 548 = .ok (.iconst 5, 1) := by decide +kernel
theorem dL_agrees_549 : decode cL_agrees 549 = .ok (.invokevirtual 156, 3) := by decide +kernel
theorem dL_agrees_552 : decode cL_agrees 552 = .ok (.iload_n 3, 1) := by decide +kernel
theorem dL_agrees_553 : decode cL_agrees 553 = .ok (.if_icmp .ne 7, 3) := by decide +kernel
theorem dL_agrees_556 : decode cL_agrees 556 = .ok (.iconst 1, 1) := by decide +kernel
theorem dL_agrees_557 : decode cL_agrees 557 = .ok (.goto 4, 3) := by decide +kernel
theorem dL_agrees_560 : decode cL_agrees 560 = .ok (.iconst 0, 1) := by decide +kernel
theorem dL_agrees_561 : decode cL_agrees 561 = .ok (.ireturn, 1) := by decide +kernel
