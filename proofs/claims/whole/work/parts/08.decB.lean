/-! how the bytes of each method read -/
theorem dX11_does_0 : decode cX11_does 0 = .ok (.aload_n 0, 1) := by decide +kernel
theorem dX11_does_1 : decode cX11_does 1 = .ok (.getfield 104, 3) := by decide +kernel
theorem dX11_does_4 : decode cX11_does 4 = .ok (.iload_n 1, 1) := by decide +kernel
theorem dX11_does_5 : decode cX11_does 5 = .ok (.iaload, 1) := by decide +kernel
theorem dX11_does_6 : decode cX11_does 6 = .ok (.istore_n 2, 1) := by decide +kernel
theorem dX11_does_7 : decode cX11_does 7 = .ok (.aload_n 0, 1) := by decide +kernel
theorem dX11_does_8 : decode cX11_does 8 = .ok (.getfield 101, 3) := by decide +kernel
theorem dX11_does_11 : decode cX11_does 11 = .ok (.iload_n 1, 1) := by decide +kernel
theorem dX11_does_12 : decode cX11_does 12 = .ok (.iaload, 1) := by decide +kernel
theorem dX11_does_13 : decode cX11_does 13 = .ok (.tableswitch 259 0 15 #[79, 87, 87, 87, 117, 137, 162, 175, 188, 201, 203, 87, 218, 259, 259, 246], 79) := by decide +kernel
theorem dX11_does_92 : decode cX11_does 92 = .ok (.aload_n 0, 1) := by decide +kernel
theorem dX11_does_93 : decode cX11_does 93 = .ok (.iload_n 2, 1) := by decide +kernel
theorem dX11_does_94 : decode cX11_does 94 = .ok (.invokevirtual 186, 3) := by decide +kernel
theorem dX11_does_97 : decode cX11_does 97 = .ok (.goto 175, 3) := by decide +kernel
theorem dX11_does_100 : decode cX11_does 100 = .ok (.aload_n 0, 1) := by decide +kernel
theorem dX11_does_101 : decode cX11_does 101 = .ok (.invokevirtual 189, 3) := by decide +kernel
theorem dX11_does_104 : decode cX11_does 104 = .ok (.istore_n 3, 1) := by decide +kernel
theorem dX11_does_105 : decode cX11_does 105 = .ok (.aload_n 0, 1) := by decide +kernel
theorem dX11_does_106 : decode cX11_does 106 = .ok (.invokevirtual 189, 3) := by decide +kernel
theorem dX11_does_109 : decode cX11_does 109 = .ok (.istore 4, 2) := by decide +kernel
theorem dX11_does_111 : decode cX11_does 111 = .ok (.aload_n 0, 1) := by decide +kernel
theorem dX11_does_112 : decode cX11_does 112 = .ok (.aload_n 0, 1) := by decide +kernel
theorem dX11_does_113 : decode cX11_does 113 = .ok (.getfield 101, 3) := by decide +kernel
theorem dX11_does_116 : decode cX11_does 116 = .ok (.iload_n 1, 1) := by decide +kernel
theorem dX11_does_117 : decode cX11_does 117 = .ok (.iaload, 1) := by decide +kernel
theorem dX11_does_118 : decode cX11_does 118 = .ok (.iload 4, 2) := by decide +kernel
theorem dX11_does_120 : decode cX11_does 120 = .ok (.iload_n 3, 1) := by decide +kernel
theorem dX11_does_121 : decode cX11_does 121 = .ok (.invokestatic 193, 3) := by decide +kernel
theorem dX11_does_124 : decode cX11_does 124 = .ok (.invokevirtual 186, 3) := by decide +kernel
theorem dX11_does_127 : decode cX11_does 127 = .ok (.goto 145, 3) := by decide +kernel
theorem dX11_does_130 : decode cX11_does 130 = .ok (.aload_n 0, 1) := by decide +kernel
theorem dX11_does_131 : decode cX11_does 131 = .ok (.aload_n 0, 1) := by decide +kernel
theorem dX11_does_132 : decode cX11_does 132 = .ok (.getfield 67, 3) := by decide +kernel
theorem dX11_does_135 : decode cX11_does 135 = .ok (.aload_n 0, 1) := by decide +kernel
theorem dX11_does_136 : decode cX11_does 136 = .ok (.getfield 64, 3) := by decide +kernel
theorem dX11_does_139 : decode cX11_does 139 = .ok (.iconst 0, 1) := by decide +kernel
theorem dX11_does_140 : decode cX11_does 140 = .ok (.iaload, 1) := by decide +kernel
theorem dX11_does_141 : decode cX11_does 141 = .ok (.iconst 1, 1) := by decide +kernel
theorem dX11_does_142 : decode cX11_does 142 = .ok (.isub, 1) := by decide +kernel
theorem dX11_does_143 : decode cX11_does 143 = .ok (.iaload, 1) := by decide +kernel
theorem dX11_does_144 : decode cX11_does 144 = .ok (.invokevirtual 186, 3) := by decide +kernel
theorem dX11_does_147 : decode cX11_does 147 = .ok (.goto 125, 3) := by decide +kernel
theorem dX11_does_150 : decode cX11_does 150 = .ok (.aload_n 0, 1) := by decide +kernel
theorem dX11_does_151 : decode cX11_does 151 = .ok (.invokevirtual 189, 3) := by decide +kernel
theorem dX11_does_154 : decode cX11_does 154 = .ok (.istore_n 3, 1) := by decide +kernel
theorem dX11_does_155 : decode cX11_does 155 = .ok (.aload_n 0, 1) := by decide +kernel
theorem dX11_does_156 : decode cX11_does 156 = .ok (.invokevirtual 189, 3) := by decide +kernel
theorem dX11_does_159 : decode cX11_does 159 = .ok (.istore 4, 2) := by decide +kernel
theorem dX11_does_161 : decode cX11_does 161 = .ok (.aload_n 0, 1) := by decide +kernel
theorem dX11_does_162 : decode cX11_does 162 = .ok (.iload_n 3, 1) := by decide +kernel
theorem dX11_does_163 : decode cX11_does 163 = .ok (.invokevirtual 186, 3) := by decide +kernel
theorem dX11_does_166 : decode cX11_does 166 = .ok (.aload_n 0, 1) := by decide +kernel
theorem dX11_does_167 : decode cX11_does 167 = .ok (.iload 4, 2) := by decide +kernel
theorem dX11_does_169 : decode cX11_does 169 = .ok (.invokevirtual 186, 3) := by decide +kernel
theorem dX11_does_172 : decode cX11_does 172 = .ok (.goto 100, 3) := by decide +kernel
theorem dX11_does_175 : decode cX11_does 175 = .ok (.aload_n 0, 1) := by decide +kernel
theorem dX11_does_176 : decode cX11_does 176 = .ok (.getfield 64, 3) := by decide +kernel
theorem dX11_does_179 : decode cX11_does 179 = .ok (.iconst 0, 1) := by decide +kernel
theorem dX11_does_180 : decode cX11_does 180 = .ok (.dup2, 1) := by decide +kernel
theorem dX11_does_181 : decode cX11_does 181 = .ok (.iaload, 1) := by decide +kernel
theorem dX11_does_182 : decode cX11_does 182 = .ok (.iconst 1, 1) := by decide +kernel
theorem dX11_does_183 : decode cX11_does 183 = .ok (.isub, 1) := by decide +kernel
theorem dX11_does_184 : decode cX11_does 184 = .ok (.iastore, 1) := by decide +kernel
theorem dX11_does_185 : decode cX11_does 185 = .ok (.goto 87, 3) := by decide +kernel
theorem dX11_does_188 : decode cX11_does 188 = .ok (.aload_n 0, 1) := by decide +kernel
theorem dX11_does_189 : decode cX11_does 189 = .ok (.aload_n 0, 1) := by decide +kernel
theorem dX11_does_190 : decode cX11_does 190 = .ok (.getfield 76, 3) := by decide +kernel
theorem dX11_does_193 : decode cX11_does 193 = .ok (.iload_n 2, 1) := by decide +kernel
theorem dX11_does_194 : decode cX11_does 194 = .ok (.iaload, 1) := by decide +kernel
theorem dX11_does_195 : decode cX11_does 195 = .ok (.invokevirtual 186, 3) := by decide +kernel
theorem dX11_does_198 : decode cX11_does 198 = .ok (.goto 74, 3) := by decide +kernel
theorem dX11_does_201 : decode cX11_does 201 = .ok (.aload_n 0, 1) := by decide +kernel
theorem dX11_does_202 : decode cX11_does 202 = .ok (.getfield 76, 3) := by decide +kernel
theorem dX11_does_205 : decode cX11_does 205 = .ok (.iload_n 2, 1) := by decide +kernel
theorem dX11_does_206 : decode cX11_does 206 = .ok (.aload_n 0, 1) := by decide +kernel
theorem dX11_does_207 : decode cX11_does 207 = .ok (.invokevirtual 189, 3) := by decide +kernel
theorem dX11_does_210 : decode cX11_does 210 = .ok (.iastore, 1) := by decide +kernel
theorem dX11_does_211 : decode cX11_does 211 = .ok (.goto 61, 3) := by decide +kernel
theorem dX11_does_214 : decode cX11_does 214 = .ok (.iload_n 2, 1) := by decide +kernel
theorem dX11_does_215 : decode cX11_does 215 = .ok (.ireturn, 1) := by decide +kernel
theorem dX11_does_216 : decode cX11_does 216 = .ok (.aload_n 0, 1) := by decide +kernel
theorem dX11_does_217 : decode cX11_does 217 = .ok (.invokevirtual 189, 3) := by decide +kernel
theorem dX11_does_220 : decode cX11_does 220 = .ok (.ifCond .ne 7, 3) := by decide +kernel
theorem dX11_does_223 : decode cX11_does 223 = .ok (.iload_n 2, 1) := by decide +kernel
theorem dX11_does_224 : decode cX11_does 224 = .ok (.goto 6, 3) := by decide +kernel
theorem dX11_does_227 : decode cX11_does 227 = .ok (.iload_n 1, 1) := by decide +kernel
theorem dX11_does_228 : decode cX11_does 228 = .ok (.iconst 1, 1) := by decide +kernel
theorem dX11_does_229 : decode cX11_does 229 = .ok (.iadd, 1) := by decide +kernel
theorem dX11_does_230 : decode cX11_does 230 = .ok (.ireturn, 1) := by decide +kernel
theorem dX11_does_231 : decode cX11_does 231 = .ok (.aload_n 0, 1) := by decide +kernel
theorem dX11_does_232 : decode cX11_does 232 = .ok (.getfield 73, 3) := by decide +kernel
theorem dX11_does_235 : decode cX11_does 235 = .ok (.aload_n 0, 1) := by decide +kernel
theorem dX11_does_236 : decode cX11_does 236 = .ok (.getfield 70, 3) := by decide +kernel
theorem dX11_does_239 : decode cX11_does 239 = .ok (.iconst 0, 1) := by decide +kernel
theorem dX11_does_240 : decode cX11_does 240 = .ok (.iaload, 1) := by decide +kernel
theorem dX11_does_241 : decode cX11_does 241 = .ok (.aload_n 0, 1) := by decide +kernel
theorem dX11_does_242 : decode cX11_does 242 = .ok (.invokevirtual 189, 3) := by decide +kernel
theorem dX11_does_245 : decode cX11_does 245 = .ok (.iastore, 1) := by decide +kernel
theorem dX11_does_246 : decode cX11_does 246 = .ok (.aload_n 0, 1) := by decide +kernel
theorem dX11_does_247 : decode cX11_does 247 = .ok (.getfield 70, 3) := by decide +kernel
theorem dX11_does_250 : decode cX11_does 250 = .ok (.iconst 0, 1) := by decide +kernel
theorem dX11_does_251 : decode cX11_does 251 = .ok (.dup2, 1) := by decide +kernel
theorem dX11_does_252 : decode cX11_does 252 = .ok (.iaload, 1) := by decide +kernel
theorem dX11_does_253 : decode cX11_does 253 = .ok (.iconst 1, 1) := by decide +kernel
theorem dX11_does_254 : decode cX11_does 254 = .ok (.iadd, 1) := by decide +kernel
theorem dX11_does_255 : decode cX11_does 255 = .ok (.iastore, 1) := by decide +kernel
theorem dX11_does_256 : decode cX11_does 256 = .ok (.goto 16, 3) := by decide +kernel
theorem dX11_does_259 : decode cX11_does 259 = .ok (.aload_n 0, 1) := by decide +kernel
theorem dX11_does_260 : decode cX11_does 260 = .ok (.getfield 76, 3) := by decide +kernel
theorem dX11_does_263 : decode cX11_does 263 = .ok (.iload_n 2, 1) := by decide +kernel
theorem dX11_does_264 : decode cX11_does 264 = .ok (.dup2, 1) := by decide +kernel
theorem dX11_does_265 : decode cX11_does 265 = .ok (.iaload, 1) := by decide +kernel
theorem dX11_does_266 : decode cX11_does 266 = .ok (.iconst 1, 1) := by decide +kernel
theorem dX11_does_267 : decode cX11_does 267 = .ok (.iadd, 1) := by decide +kernel
theorem dX11_does_268 : decode cX11_does 268 = .ok (.iastore, 1) := by decide +kernel
theorem dX11_does_269 : decode cX11_does 269 = .ok (.goto 3, 3) := by decide +kernel
theorem dX11_does_272 : decode cX11_does 272 = .ok (.iload_n 1, 1) := by decide +kernel
theorem dX11_does_273 : decode cX11_does 273 = .ok (.iconst 1, 1) := by decide +kernel
theorem dX11_does_274 : decode cX11_does 274 = .ok (.iadd, 1) := by decide +kernel
theorem dX11_does_275 : decode cX11_does 275 = .ok (.ireturn, 1) := by decide +kernel
theorem dX11_runs_0 : decode cX11_runs 0 = .ok (.aload_n 0, 1) := by decide +kernel
theorem dX11_runs_1 : decode cX11_runs 1 = .ok (.getfield 55, 3) := by decide +kernel
theorem dX11_runs_4 : decode cX11_runs 4 = .ok (.iconst 0, 1) := by decide +kernel
theorem dX11_runs_5 : decode cX11_runs 5 = .ok (.iconst 0, 1) := by decide +kernel
theorem dX11_runs_6 : decode cX11_runs 6 = .ok (.iastore, 1) := by decide +kernel
theorem dX11_runs_7 : decode cX11_runs 7 = .ok (.aload_n 0, 1) := by decide +kernel
theorem dX11_runs_8 : decode cX11_runs 8 = .ok (.getfield 58, 3) := by decide +kernel
theorem dX11_runs_11 : decode cX11_runs 11 = .ok (.iconst 0, 1) := by decide +kernel
theorem dX11_runs_12 : decode cX11_runs 12 = .ok (.iconst 0, 1) := by decide +kernel
theorem dX11_runs_13 : decode cX11_runs 13 = .ok (.iastore, 1) := by decide +kernel
theorem dX11_runs_14 : decode cX11_runs 14 = .ok (.aload_n 0, 1) := by decide +kernel
theorem dX11_runs_15 : decode cX11_runs 15 = .ok (.getfield 64, 3) := by decide +kernel
theorem dX11_runs_18 : decode cX11_runs 18 = .ok (.iconst 0, 1) := by decide +kernel
theorem dX11_runs_19 : decode cX11_runs 19 = .ok (.iconst 0, 1) := by decide +kernel
theorem dX11_runs_20 : decode cX11_runs 20 = .ok (.iastore, 1) := by decide +kernel
theorem dX11_runs_21 : decode cX11_runs 21 = .ok (.aload_n 0, 1) := by decide +kernel
theorem dX11_runs_22 : decode cX11_runs 22 = .ok (.getfield 70, 3) := by decide +kernel
theorem dX11_runs_25 : decode cX11_runs 25 = .ok (.iconst 0, 1) := by decide +kernel
theorem dX11_runs_26 : decode cX11_runs 26 = .ok (.iconst 0, 1) := by decide +kernel
theorem dX11_runs_27 : decode cX11_runs 27 = .ok (.iastore, 1) := by decide +kernel
theorem dX11_runs_28 : decode cX11_runs 28 = .ok (.iconst 0, 1) := by decide +kernel
theorem dX11_runs_29 : decode cX11_runs 29 = .ok (.istore_n 3, 1) := by decide +kernel
theorem dX11_runs_30 : decode cX11_runs 30 = .ok (.iload_n 3, 1) := by decide +kernel
theorem dX11_runs_31 : decode cX11_runs 31 = .ok (.bipush 8, 2) := by decide +kernel
theorem dX11_runs_33 : decode cX11_runs 33 = .ok (.if_icmp .ge 16, 3) := by decide +kernel
theorem dX11_runs_36 : decode cX11_runs 36 = .ok (.aload_n 0, 1) := by decide +kernel
theorem dX11_runs_37 : decode cX11_runs 37 = .ok (.getfield 76, 3) := by decide +kernel
theorem dX11_runs_40 : decode cX11_runs 40 = .ok (.iload_n 3, 1) := by decide +kernel
theorem dX11_runs_41 : decode cX11_runs 41 = .ok (.iconst 0, 1) := by decide +kernel
theorem dX11_runs_42 : decode cX11_runs 42 = .ok (.iastore, 1) := by decide +kernel
theorem dX11_runs_43 : decode cX11_runs 43 = .ok (.iinc 3 1, 3) := by decide +kernel
theorem dX11_runs_46 : decode cX11_runs 46 = .ok (.goto (-16), 3) := by decide +kernel
theorem dX11_runs_49 : decode cX11_runs 49 = .ok (.iconst 0, 1) := by decide +kernel
theorem dX11_runs_50 : decode cX11_runs 50 = .ok (.istore_n 3, 1) := by decide +kernel
theorem dX11_runs_51 : decode cX11_runs 51 = .ok (.iload_n 3, 1) := by decide +kernel
theorem dX11_runs_52 : decode cX11_runs 52 = .ok (.bipush 40, 2) := by decide +kernel
theorem dX11_runs_54 : decode cX11_runs 54 = .ok (.if_icmp .ge 16, 3) := by decide +kernel
theorem dX11_runs_57 : decode cX11_runs 57 = .ok (.aload_n 0, 1) := by decide +kernel
theorem dX11_runs_58 : decode cX11_runs 58 = .ok (.getfield 107, 3) := by decide +kernel
theorem dX11_runs_61 : decode cX11_runs 61 = .ok (.iload_n 3, 1) := by decide +kernel
theorem dX11_runs_62 : decode cX11_runs 62 = .ok (.iconst 0, 1) := by decide +kernel
theorem dX11_runs_63 : decode cX11_runs 63 = .ok (.iastore, 1) := by decide +kernel
theorem dX11_runs_64 : decode cX11_runs 64 = .ok (.iinc 3 1, 3) := by decide +kernel
theorem dX11_runs_67 : decode cX11_runs 67 = .ok (.goto (-16), 3) := by decide +kernel
theorem dX11_runs_70 : decode cX11_runs 70 = .ok (.iconst 0, 1) := by decide +kernel
theorem dX11_runs_71 : decode cX11_runs 71 = .ok (.istore_n 3, 1) := by decide +kernel
theorem dX11_runs_72 : decode cX11_runs 72 = .ok (.bipush 99, 2) := by decide +kernel
theorem dX11_runs_74 : decode cX11_runs 74 = .ok (.istore 4, 2) := by decide +kernel
theorem dX11_runs_76 : decode cX11_runs 76 = .ok (.iload 4, 2) := by decide +kernel
theorem dX11_runs_78 : decode cX11_runs 78 = .ok (.bipush 99, 2) := by decide +kernel
theorem dX11_runs_80 : decode cX11_runs 80 = .ok (.if_icmp .ne 208, 3) := by decide +kernel
theorem dX11_runs_83 : decode cX11_runs 83 = .ok (.aload_n 0, 1) := by decide +kernel
theorem dX11_runs_84 : decode cX11_runs 84 = .ok (.getfield 61, 3) := by decide +kernel
theorem dX11_runs_87 : decode cX11_runs 87 = .ok (.iconst 0, 1) := by decide +kernel
theorem dX11_runs_88 : decode cX11_runs 88 = .ok (.iload_n 3, 1) := by decide +kernel
theorem dX11_runs_89 : decode cX11_runs 89 = .ok (.iastore, 1) := by decide +kernel
theorem dX11_runs_90 : decode cX11_runs 90 = .ok (.iload_n 3, 1) := by decide +kernel
theorem dX11_runs_91 : decode cX11_runs 91 = .ok (.iload_n 1, 1) := by decide +kernel
theorem dX11_runs_92 : decode cX11_runs 92 = .ok (.if_icmp .lt 9, 3) := by decide +kernel
theorem dX11_runs_95 : decode cX11_runs 95 = .ok (.iconst 0, 1) := by decide +kernel
theorem dX11_runs_96 : decode cX11_runs 96 = .ok (.istore 4, 2) := by decide +kernel
theorem dX11_runs_98 : decode cX11_runs 98 = .ok (.goto (-22), 3) := by decide +kernel
theorem dX11_runs_101 : decode cX11_runs 101 = .ok (.aload_n 0, 1) := by decide +kernel
theorem dX11_runs_102 : decode cX11_runs 102 = .ok (.getfield 55, 3) := by decide +kernel
theorem dX11_runs_105 : decode cX11_runs 105 = .ok (.iconst 0, 1) := by decide +kernel
theorem dX11_runs_106 : decode cX11_runs 106 = .ok (.iaload, 1) := by decide +kernel
theorem dX11_runs_107 : decode cX11_runs 107 = .ok (.iload_n 2, 1) := by decide +kernel
theorem dX11_runs_108 : decode cX11_runs 108 = .ok (.if_icmp .ne 9, 3) := by decide +kernel
theorem dX11_runs_111 : decode cX11_runs 111 = .ok (.iconst 3, 1) := by decide +kernel
theorem dX11_runs_112 : decode cX11_runs 112 = .ok (.istore 4, 2) := by decide +kernel
theorem dX11_runs_114 : decode cX11_runs 114 = .ok (.goto (-38), 3) := by decide +kernel
theorem dX11_runs_117 : decode cX11_runs 117 = .ok (.aload_n 0, 1) := by decide +kernel
theorem dX11_runs_118 : decode cX11_runs 118 = .ok (.getfield 101, 3) := by decide +kernel
theorem dX11_runs_121 : decode cX11_runs 121 = .ok (.iload_n 3, 1) := by decide +kernel
theorem dX11_runs_122 : decode cX11_runs 122 = .ok (.iaload, 1) := by decide +kernel
theorem dX11_runs_123 : decode cX11_runs 123 = .ok (.istore 5, 2) := by decide +kernel
theorem dX11_runs_125 : decode cX11_runs 125 = .ok (.aload_n 0, 1) := by decide +kernel
theorem dX11_runs_126 : decode cX11_runs 126 = .ok (.getfield 58, 3) := by decide +kernel
theorem dX11_runs_129 : decode cX11_runs 129 = .ok (.iconst 0, 1) := by decide +kernel
theorem dX11_runs_130 : decode cX11_runs 130 = .ok (.dup2, 1) := by decide +kernel
theorem dX11_runs_131 : decode cX11_runs 131 = .ok (.iaload, 1) := by decide +kernel
theorem dX11_runs_132 : decode cX11_runs 132 = .ok (.aload_n 0, 1) := by decide +kernel
theorem dX11_runs_133 : decode cX11_runs 133 = .ok (.getfield 110, 3) := by decide +kernel
theorem dX11_runs_136 : decode cX11_runs 136 = .ok (.iload_n 3, 1) := by decide +kernel
theorem dX11_runs_137 : decode cX11_runs 137 = .ok (.baload, 1) := by decide +kernel
theorem dX11_runs_138 : decode cX11_runs 138 = .ok (.ifCond .eq 7, 3) := by decide +kernel
theorem dX11_runs_141 : decode cX11_runs 141 = .ok (.iconst 1, 1) := by decide +kernel
theorem dX11_runs_142 : decode cX11_runs 142 = .ok (.goto 4, 3) := by decide +kernel
theorem dX11_runs_145 : decode cX11_runs 145 = .ok (.iconst 0, 1) := by decide +kernel
theorem dX11_runs_146 : decode cX11_runs 146 = .ok (.iadd, 1) := by decide +kernel
theorem dX11_runs_147 : decode cX11_runs 147 = .ok (.iastore, 1) := by decide +kernel
theorem dX11_runs_148 : decode cX11_runs 148 = .ok (.aload_n 0, 1) := by decide +kernel
theorem dX11_runs_149 : decode cX11_runs 149 = .ok (.getfield 64, 3) := by decide +kernel
theorem dX11_runs_152 : decode cX11_runs 152 = .ok (.iconst 0, 1) := by decide +kernel
theorem dX11_runs_153 : decode cX11_runs 153 = .ok (.iaload, 1) := by decide +kernel
theorem dX11_runs_154 : decode cX11_runs 154 = .ok (.bipush 24, 2) := by decide +kernel
theorem dX11_runs_156 : decode cX11_runs 156 = .ok (.if_icmp .ne 21, 3) := by decide +kernel
theorem dX11_runs_159 : decode cX11_runs 159 = .ok (.iload 5, 2) := by decide +kernel
theorem dX11_runs_161 : decode cX11_runs 161 = .ok (.ifCond .eq 34, 3) := by decide +kernel
theorem dX11_runs_164 : decode cX11_runs 164 = .ok (.iload 5, 2) := by decide +kernel
theorem dX11_runs_166 : decode cX11_runs 166 = .ok (.iconst 4, 1) := by decide +kernel
theorem dX11_runs_167 : decode cX11_runs 167 = .ok (.if_icmp .eq 28, 3) := by decide +kernel
theorem dX11_runs_170 : decode cX11_runs 170 = .ok (.iload 5, 2) := by decide +kernel
theorem dX11_runs_172 : decode cX11_runs 172 = .ok (.bipush 7, 2) := by decide +kernel
theorem dX11_runs_174 : decode cX11_runs 174 = .ok (.if_icmp .eq 21, 3) := by decide +kernel
theorem dX11_runs_177 : decode cX11_runs 177 = .ok (.aload_n 0, 1) := by decide +kernel
theorem dX11_runs_178 : decode cX11_runs 178 = .ok (.getfield 70, 3) := by decide +kernel
theorem dX11_runs_181 : decode cX11_runs 181 = .ok (.iconst 0, 1) := by decide +kernel
theorem dX11_runs_182 : decode cX11_runs 182 = .ok (.iaload, 1) := by decide +kernel
theorem dX11_runs_183 : decode cX11_runs 183 = .ok (.bipush 40, 2) := by decide +kernel
theorem dX11_runs_185 : decode cX11_runs 185 = .ok (.if_icmp .ne 14, 3) := by decide +kernel
theorem dX11_runs_188 : decode cX11_runs 188 = .ok (.iload 5, 2) := by decide +kernel
theorem dX11_runs_190 : decode cX11_runs 190 = .ok (.bipush 12, 2) := by decide +kernel
theorem dX11_runs_192 : decode cX11_runs 192 = .ok (.if_icmp .ne 7, 3) := by decide +kernel
theorem dX11_runs_195 : decode cX11_runs 195 = .ok (.iconst 1, 1) := by decide +kernel
theorem dX11_runs_196 : decode cX11_runs 196 = .ok (.goto 4, 3) := by decide +kernel
theorem dX11_runs_199 : decode cX11_runs 199 = .ok (.iconst 0, 1) := by decide +kernel
theorem dX11_runs_200 : decode cX11_runs 200 = .ok (.istore 6, 2) := by decide +kernel
theorem dX11_runs_202 : decode cX11_runs 202 = .ok (.aload_n 0, 1) := by decide +kernel
theorem dX11_runs_203 : decode cX11_runs 203 = .ok (.getfield 64, 3) := by decide +kernel
theorem dX11_runs_206 : decode cX11_runs 206 = .ok (.iconst 0, 1) := by decide +kernel
theorem dX11_runs_207 : decode cX11_runs 207 = .ok (.iaload, 1) := by decide +kernel
theorem dX11_runs_208 : decode cX11_runs 208 = .ok (.iload 5, 2) := by decide +kernel
theorem dX11_runs_210 : decode cX11_runs 210 = .ok (.invokestatic 197, 3) := by decide +kernel
theorem dX11_runs_213 : decode cX11_runs 213 = .ok (.if_icmp .ge 9, 3) := by decide +kernel
theorem dX11_runs_216 : decode cX11_runs 216 = .ok (.iconst 1, 1) := by decide +kernel
theorem dX11_runs_217 : decode cX11_runs 217 = .ok (.istore 4, 2) := by decide +kernel
theorem dX11_runs_219 : decode cX11_runs 219 = .ok (.goto 66, 3) := by decide +kernel
theorem dX11_runs_222 : decode cX11_runs 222 = .ok (.iload 6, 2) := by decide +kernel
theorem dX11_runs_224 : decode cX11_runs 224 = .ok (.ifCond .eq 9, 3) := by decide +kernel
theorem dX11_runs_227 : decode cX11_runs 227 = .ok (.iconst 2, 1) := by decide +kernel
theorem dX11_runs_228 : decode cX11_runs 228 = .ok (.istore 4, 2) := by decide +kernel
theorem dX11_runs_230 : decode cX11_runs 230 = .ok (.goto 55, 3) := by decide +kernel
theorem dX11_runs_233 : decode cX11_runs 233 = .ok (.aload_n 0, 1) := by decide +kernel
theorem dX11_runs_234 : decode cX11_runs 234 = .ok (.getfield 55, 3) := by decide +kernel
theorem dX11_runs_237 : decode cX11_runs 237 = .ok (.iconst 0, 1) := by decide +kernel
theorem dX11_runs_238 : decode cX11_runs 238 = .ok (.dup2, 1) := by decide +kernel
theorem dX11_runs_239 : decode cX11_runs 239 = .ok (.iaload, 1) := by decide +kernel
theorem dX11_runs_240 : decode cX11_runs 240 = .ok (.iconst 1, 1) := by decide +kernel
theorem dX11_runs_241 : decode cX11_runs 241 = .ok (.iadd, 1) := by decide +kernel
theorem dX11_runs_242 : decode cX11_runs 242 = .ok (.iastore, 1) := by decide +kernel
theorem dX11_runs_243 : decode cX11_runs 243 = .ok (.aload_n 0, 1) := by decide +kernel
theorem dX11_runs_244 : decode cX11_runs 244 = .ok (.getfield 107, 3) := by decide +kernel
theorem dX11_runs_247 : decode cX11_runs 247 = .ok (.iload_n 3, 1) := by decide +kernel
theorem dX11_runs_248 : decode cX11_runs 248 = .ok (.dup2, 1) := by decide +kernel
theorem dX11_runs_249 : decode cX11_runs 249 = .ok (.iaload, 1) := by decide +kernel
theorem dX11_runs_250 : decode cX11_runs 250 = .ok (.iconst 1, 1) := by decide +kernel
theorem dX11_runs_251 : decode cX11_runs 251 = .ok (.iadd, 1) := by decide +kernel
theorem dX11_runs_252 : decode cX11_runs 252 = .ok (.iastore, 1) := by decide +kernel
theorem dX11_runs_253 : decode cX11_runs 253 = .ok (.iload 5, 2) := by decide +kernel
theorem dX11_runs_255 : decode cX11_runs 255 = .ok (.bipush 13, 2) := by decide +kernel
theorem dX11_runs_257 : decode cX11_runs 257 = .ok (.if_icmp .ne 7, 3) := by decide +kernel
theorem dX11_runs_260 : decode cX11_runs 260 = .ok (.iconst 0, 1) := by decide +kernel
theorem dX11_runs_261 : decode cX11_runs 261 = .ok (.goto 5, 3) := by decide +kernel
theorem dX11_runs_264 : decode cX11_runs 264 = .ok (.bipush 99, 2) := by decide +kernel
theorem dX11_runs_266 : decode cX11_runs 266 = .ok (.istore 4, 2) := by decide +kernel
theorem dX11_runs_268 : decode cX11_runs 268 = .ok (.iload 5, 2) := by decide +kernel
theorem dX11_runs_270 : decode cX11_runs 270 = .ok (.bipush 13, 2) := by decide +kernel
theorem dX11_runs_272 : decode cX11_runs 272 = .ok (.if_icmp .ne 7, 3) := by decide +kernel
theorem dX11_runs_275 : decode cX11_runs 275 = .ok (.iload_n 3, 1) := by decide +kernel
theorem dX11_runs_276 : decode cX11_runs 276 = .ok (.goto 8, 3) := by decide +kernel
theorem dX11_runs_279 : decode cX11_runs 279 = .ok (.aload_n 0, 1) := by decide +kernel
theorem dX11_runs_280 : decode cX11_runs 280 = .ok (.iload_n 3, 1) := by decide +kernel
theorem dX11_runs_281 : decode cX11_runs 281 = .ok (.invokevirtual 201, 3) := by decide +kernel
theorem dX11_runs_284 : decode cX11_runs 284 = .ok (.istore_n 3, 1) := by decide +kernel
theorem dX11_runs_285 : decode cX11_runs 285 = .ok (.goto (-209), 3) := by decide +kernel
theorem dX11_runs_288 : decode cX11_runs 288 = .ok (.aload_n 0, 1) := by decide +kernel
theorem dX11_runs_289 : decode cX11_runs 289 = .ok (.getfield 52, 3) := by decide +kernel
theorem dX11_runs_292 : decode cX11_runs 292 = .ok (.iconst 0, 1) := by decide +kernel
theorem dX11_runs_293 : decode cX11_runs 293 = .ok (.iload 4, 2) := by decide +kernel
theorem dX11_runs_295 : decode cX11_runs 295 = .ok (.iastore, 1) := by decide +kernel
theorem dX11_runs_296 : decode cX11_runs 296 = .ok (.iload 4, 2) := by decide +kernel
theorem dX11_runs_298 : decode cX11_runs 298 = .ok (.ireturn, 1) := by decide +kernel
theorem dX11_run_0 : decode cX11_run 0 = .ok (.aload_n 0, 1) := by decide +kernel
theorem dX11_run_1 : decode cX11_run 1 = .ok (.iconst 0, 1) := by decide +kernel
theorem dX11_run_2 : decode cX11_run 2 = .ok (.putfield 134, 3) := by decide +kernel
theorem dX11_run_5 : decode cX11_run 5 = .ok (.iload_n 3, 1) := by decide +kernel
theorem dX11_run_6 : decode cX11_run 6 = .ok (.iconst 0, 1) := by decide +kernel
theorem dX11_run_7 : decode cX11_run 7 = .ok (.sipush 20000, 3) := by decide +kernel
theorem dX11_run_10 : decode cX11_run 10 = .ok (.invokestatic 142, 3) := by decide +kernel
theorem dX11_run_13 : decode cX11_run 13 = .ok (.ifCond .eq 28, 3) := by decide +kernel
theorem dX11_run_16 : decode cX11_run 16 = .ok (.iload_n 2, 1) := by decide +kernel
theorem dX11_run_17 : decode cX11_run 17 = .ok (.ifCond .eq 16, 3) := by decide +kernel
theorem dX11_run_20 : decode cX11_run 20 = .ok (.aload_n 0, 1) := by decide +kernel
theorem dX11_run_21 : decode cX11_run 21 = .ok (.getfield 40, 3) := by decide +kernel
theorem dX11_run_24 : decode cX11_run 24 = .ok (.iconst 0, 1) := by decide +kernel
theorem dX11_run_25 : decode cX11_run 25 = .ok (.iaload, 1) := by decide +kernel
theorem dX11_run_26 : decode cX11_run 26 = .ok (.iconst (-1), 1) := by decide +kernel
theorem dX11_run_27 : decode cX11_run 27 = .ok (.if_icmp .ne 16, 3) := by decide +kernel
theorem dX11_run_30 : decode cX11_run 30 = .ok (.goto 11, 3) := by decide +kernel
theorem dX11_run_33 : decode cX11_run 33 = .ok (.aload_n 0, 1) := by decide +kernel
theorem dX11_run_34 : decode cX11_run 34 = .ok (.iload_n 1, 1) := by decide +kernel
theorem dX11_run_35 : decode cX11_run 35 = .ok (.invokevirtual 150, 3) := by decide +kernel
theorem dX11_run_38 : decode cX11_run 38 = .ok (.ifCond .ne 5, 3) := by decide +kernel
theorem dX11_run_41 : decode cX11_run 41 = .ok (.iconst (-1), 1) := by decide +kernel
theorem dX11_run_42 : decode cX11_run 42 = .ok (.ireturn, 1) := by decide +kernel
theorem dX11_run_43 : decode cX11_run 43 = .ok (.iload_n 2, 1) := by decide +kernel
theorem dX11_run_44 : decode cX11_run 44 = .ok (.ifCond .eq 12, 3) := by decide +kernel
theorem dX11_run_47 : decode cX11_run 47 = .ok (.aload_n 0, 1) := by decide +kernel
theorem dX11_run_48 : decode cX11_run 48 = .ok (.getfield 31, 3) := by decide +kernel
theorem dX11_run_51 : decode cX11_run 51 = .ok (.iconst 0, 1) := by decide +kernel
theorem dX11_run_52 : decode cX11_run 52 = .ok (.iaload, 1) := by decide +kernel
theorem dX11_run_53 : decode cX11_run 53 = .ok (.goto 9, 3) := by decide +kernel
theorem dX11_run_56 : decode cX11_run 56 = .ok (.aload_n 0, 1) := by decide +kernel
theorem dX11_run_57 : decode cX11_run 57 = .ok (.getfield 13, 3) := by decide +kernel
theorem dX11_run_60 : decode cX11_run 60 = .ok (.iload_n 1, 1) := by decide +kernel
theorem dX11_run_61 : decode cX11_run 61 = .ok (.iaload, 1) := by decide +kernel
theorem dX11_run_62 : decode cX11_run 62 = .ok (.istore 4, 2) := by decide +kernel
theorem dX11_run_64 : decode cX11_run 64 = .ok (.iconst 0, 1) := by decide +kernel
theorem dX11_run_65 : decode cX11_run 65 = .ok (.istore 5, 2) := by decide +kernel
theorem dX11_run_67 : decode cX11_run 67 = .ok (.iload 5, 2) := by decide +kernel
theorem dX11_run_69 : decode cX11_run 69 = .ok (.bipush 40, 2) := by decide +kernel
theorem dX11_run_71 : decode cX11_run 71 = .ok (.if_icmp .ge 25, 3) := by decide +kernel
theorem dX11_run_74 : decode cX11_run 74 = .ok (.aload_n 0, 1) := by decide +kernel
theorem dX11_run_75 : decode cX11_run 75 = .ok (.getfield 110, 3) := by decide +kernel
theorem dX11_run_78 : decode cX11_run 78 = .ok (.iload 5, 2) := by decide +kernel
theorem dX11_run_80 : decode cX11_run 80 = .ok (.iload_n 2, 1) := by decide +kernel
theorem dX11_run_81 : decode cX11_run 81 = .ok (.ifCond .ne 7, 3) := by decide +kernel
theorem dX11_run_84 : decode cX11_run 84 = .ok (.iconst 1, 1) := by decide +kernel
theorem dX11_run_85 : decode cX11_run 85 = .ok (.goto 4, 3) := by decide +kernel
theorem dX11_run_88 : decode cX11_run 88 = .ok (.iconst 0, 1) := by decide +kernel
theorem dX11_run_89 : decode cX11_run 89 = .ok (.bastore, 1) := by decide +kernel
theorem dX11_run_90 : decode cX11_run 90 = .ok (.iinc 5 1, 3) := by decide +kernel
theorem dX11_run_93 : decode cX11_run 93 = .ok (.goto (-26), 3) := by decide +kernel
theorem dX11_run_96 : decode cX11_run 96 = .ok (.iconst 0, 1) := by decide +kernel
theorem dX11_run_97 : decode cX11_run 97 = .ok (.istore 5, 2) := by decide +kernel
theorem dX11_run_99 : decode cX11_run 99 = .ok (.iload_n 2, 1) := by decide +kernel
theorem dX11_run_100 : decode cX11_run 100 = .ok (.ifCond .eq 37, 3) := by decide +kernel
theorem dX11_run_103 : decode cX11_run 103 = .ok (.iload 5, 2) := by decide +kernel
theorem dX11_run_105 : decode cX11_run 105 = .ok (.aload_n 0, 1) := by decide +kernel
theorem dX11_run_106 : decode cX11_run 106 = .ok (.getfield 40, 3) := by decide +kernel
theorem dX11_run_109 : decode cX11_run 109 = .ok (.iconst 0, 1) := by decide +kernel
theorem dX11_run_110 : decode cX11_run 110 = .ok (.iaload, 1) := by decide +kernel
theorem dX11_run_111 : decode cX11_run 111 = .ok (.if_icmp .ge 26, 3) := by decide +kernel
theorem dX11_run_114 : decode cX11_run 114 = .ok (.aload_n 0, 1) := by decide +kernel
theorem dX11_run_115 : decode cX11_run 115 = .ok (.getfield 110, 3) := by decide +kernel
theorem dX11_run_118 : decode cX11_run 118 = .ok (.aload_n 0, 1) := by decide +kernel
theorem dX11_run_119 : decode cX11_run 119 = .ok (.getfield 43, 3) := by decide +kernel
theorem dX11_run_122 : decode cX11_run 122 = .ok (.iconst 3, 1) := by decide +kernel
theorem dX11_run_123 : decode cX11_run 123 = .ok (.iload 5, 2) := by decide +kernel
theorem dX11_run_125 : decode cX11_run 125 = .ok (.imul, 1) := by decide +kernel
theorem dX11_run_126 : decode cX11_run 126 = .ok (.iconst 1, 1) := by decide +kernel
theorem dX11_run_127 : decode cX11_run 127 = .ok (.iadd, 1) := by decide +kernel
theorem dX11_run_128 : decode cX11_run 128 = .ok (.iaload, 1) := by decide +kernel
theorem dX11_run_129 : decode cX11_run 129 = .ok (.iconst 1, 1) := by decide +kernel
theorem dX11_run_130 : decode cX11_run 130 = .ok (.bastore, 1) := by decide +kernel
theorem dX11_run_131 : decode cX11_run 131 = .ok (.iinc 5 1, 3) := by decide +kernel
theorem dX11_run_134 : decode cX11_run 134 = .ok (.goto (-35), 3) := by decide +kernel
theorem dX11_run_137 : decode cX11_run 137 = .ok (.iconst 0, 1) := by decide +kernel
theorem dX11_run_138 : decode cX11_run 138 = .ok (.istore 5, 2) := by decide +kernel
theorem dX11_run_140 : decode cX11_run 140 = .ok (.iload 5, 2) := by decide +kernel
theorem dX11_run_142 : decode cX11_run 142 = .ok (.iload 4, 2) := by decide +kernel
theorem dX11_run_144 : decode cX11_run 144 = .ok (.if_icmp .ge 75, 3) := by decide +kernel
theorem dX11_run_147 : decode cX11_run 147 = .ok (.aload_n 0, 1) := by decide +kernel
theorem dX11_run_148 : decode cX11_run 148 = .ok (.getfield 101, 3) := by decide +kernel
theorem dX11_run_151 : decode cX11_run 151 = .ok (.iload 5, 2) := by decide +kernel
theorem dX11_run_153 : decode cX11_run 153 = .ok (.iload_n 2, 1) := by decide +kernel
theorem dX11_run_154 : decode cX11_run 154 = .ok (.ifCond .eq 13, 3) := by decide +kernel
theorem dX11_run_157 : decode cX11_run 157 = .ok (.aload_n 0, 1) := by decide +kernel
theorem dX11_run_158 : decode cX11_run 158 = .ok (.getfield 34, 3) := by decide +kernel
theorem dX11_run_161 : decode cX11_run 161 = .ok (.iload 5, 2) := by decide +kernel
theorem dX11_run_163 : decode cX11_run 163 = .ok (.iaload, 1) := by decide +kernel
theorem dX11_run_164 : decode cX11_run 164 = .ok (.goto 15, 3) := by decide +kernel
theorem dX11_run_167 : decode cX11_run 167 = .ok (.aload_n 0, 1) := by decide +kernel
theorem dX11_run_168 : decode cX11_run 168 = .ok (.getfield 16, 3) := by decide +kernel
theorem dX11_run_171 : decode cX11_run 171 = .ok (.bipush 40, 2) := by decide +kernel
theorem dX11_run_173 : decode cX11_run 173 = .ok (.iload_n 1, 1) := by decide +kernel
theorem dX11_run_174 : decode cX11_run 174 = .ok (.imul, 1) := by decide +kernel
theorem dX11_run_175 : decode cX11_run 175 = .ok (.iload 5, 2) := by decide +kernel
theorem dX11_run_177 : decode cX11_run 177 = .ok (.iadd, 1) := by decide +kernel
theorem dX11_run_178 : decode cX11_run 178 = .ok (.iaload, 1) := by decide +kernel
theorem dX11_run_179 : decode cX11_run 179 = .ok (.iastore, 1) := by decide +kernel
theorem dX11_run_180 : decode cX11_run 180 = .ok (.aload_n 0, 1) := by decide +kernel
theorem dX11_run_181 : decode cX11_run 181 = .ok (.getfield 104, 3) := by decide +kernel
theorem dX11_run_184 : decode cX11_run 184 = .ok (.iload 5, 2) := by decide +kernel
theorem dX11_run_186 : decode cX11_run 186 = .ok (.iload_n 2, 1) := by decide +kernel
theorem dX11_run_187 : decode cX11_run 187 = .ok (.ifCond .eq 13, 3) := by decide +kernel
theorem dX11_run_190 : decode cX11_run 190 = .ok (.aload_n 0, 1) := by decide +kernel
theorem dX11_run_191 : decode cX11_run 191 = .ok (.getfield 37, 3) := by decide +kernel
theorem dX11_run_194 : decode cX11_run 194 = .ok (.iload 5, 2) := by decide +kernel
theorem dX11_run_196 : decode cX11_run 196 = .ok (.iaload, 1) := by decide +kernel
theorem dX11_run_197 : decode cX11_run 197 = .ok (.goto 15, 3) := by decide +kernel
theorem dX11_run_200 : decode cX11_run 200 = .ok (.aload_n 0, 1) := by decide +kernel
theorem dX11_run_201 : decode cX11_run 201 = .ok (.getfield 19, 3) := by decide +kernel
theorem dX11_run_204 : decode cX11_run 204 = .ok (.bipush 40, 2) := by decide +kernel
theorem dX11_run_206 : decode cX11_run 206 = .ok (.iload_n 1, 1) := by decide +kernel
theorem dX11_run_207 : decode cX11_run 207 = .ok (.imul, 1) := by decide +kernel
theorem dX11_run_208 : decode cX11_run 208 = .ok (.iload 5, 2) := by decide +kernel
theorem dX11_run_210 : decode cX11_run 210 = .ok (.iadd, 1) := by decide +kernel
theorem dX11_run_211 : decode cX11_run 211 = .ok (.iaload, 1) := by decide +kernel
theorem dX11_run_212 : decode cX11_run 212 = .ok (.iastore, 1) := by decide +kernel
theorem dX11_run_213 : decode cX11_run 213 = .ok (.iinc 5 1, 3) := by decide +kernel
theorem dX11_run_216 : decode cX11_run 216 = .ok (.goto (-76), 3) := by decide +kernel
theorem dX11_run_219 : decode cX11_run 219 = .ok (.aload_n 0, 1) := by decide +kernel
theorem dX11_run_220 : decode cX11_run 220 = .ok (.iload 4, 2) := by decide +kernel
theorem dX11_run_222 : decode cX11_run 222 = .ok (.iload_n 3, 1) := by decide +kernel
theorem dX11_run_223 : decode cX11_run 223 = .ok (.invokevirtual 204, 3) := by decide +kernel
theorem dX11_run_226 : decode cX11_run 226 = .ok (.istore 5, 2) := by decide +kernel
theorem dX11_run_228 : decode cX11_run 228 = .ok (.iconst 0, 1) := by decide +kernel
theorem dX11_run_229 : decode cX11_run 229 = .ok (.istore 6, 2) := by decide +kernel
theorem dX11_run_231 : decode cX11_run 231 = .ok (.iload_n 2, 1) := by decide +kernel
theorem dX11_run_232 : decode cX11_run 232 = .ok (.ifCond .ne 35, 3) := by decide +kernel
theorem dX11_run_235 : decode cX11_run 235 = .ok (.iload 6, 2) := by decide +kernel
theorem dX11_run_237 : decode cX11_run 237 = .ok (.iload 4, 2) := by decide +kernel
theorem dX11_run_239 : decode cX11_run 239 = .ok (.if_icmp .ge 28, 3) := by decide +kernel
theorem dX11_run_242 : decode cX11_run 242 = .ok (.aload_n 0, 1) := by decide +kernel
theorem dX11_run_243 : decode cX11_run 243 = .ok (.getfield 22, 3) := by decide +kernel
theorem dX11_run_246 : decode cX11_run 246 = .ok (.bipush 40, 2) := by decide +kernel
theorem dX11_run_248 : decode cX11_run 248 = .ok (.iload_n 1, 1) := by decide +kernel
theorem dX11_run_249 : decode cX11_run 249 = .ok (.imul, 1) := by decide +kernel
theorem dX11_run_250 : decode cX11_run 250 = .ok (.iload 6, 2) := by decide +kernel
theorem dX11_run_252 : decode cX11_run 252 = .ok (.iadd, 1) := by decide +kernel
theorem dX11_run_253 : decode cX11_run 253 = .ok (.aload_n 0, 1) := by decide +kernel
theorem dX11_run_254 : decode cX11_run 254 = .ok (.getfield 107, 3) := by decide +kernel
theorem dX11_run_257 : decode cX11_run 257 = .ok (.iload 6, 2) := by decide +kernel
theorem dX11_run_259 : decode cX11_run 259 = .ok (.iaload, 1) := by decide +kernel
theorem dX11_run_260 : decode cX11_run 260 = .ok (.iastore, 1) := by decide +kernel
theorem dX11_run_261 : decode cX11_run 261 = .ok (.iinc 6 1, 3) := by decide +kernel
theorem dX11_run_264 : decode cX11_run 264 = .ok (.goto (-33), 3) := by decide +kernel
theorem dX11_run_267 : decode cX11_run 267 = .ok (.iload 5, 2) := by decide +kernel
theorem dX11_run_269 : decode cX11_run 269 = .ok (.ireturn, 1) := by decide +kernel
theorem dX11_ran_0 : decode cX11_ran 0 = .ok (.aload_n 0, 1) := by decide +kernel
theorem dX11_ran_1 : decode cX11_ran 1 = .ok (.iconst 0, 1) := by decide +kernel
theorem dX11_ran_2 : decode cX11_ran 2 = .ok (.putfield 134, 3) := by decide +kernel
theorem dX11_ran_5 : decode cX11_ran 5 = .ok (.aload_n 0, 1) := by decide +kernel
theorem dX11_ran_6 : decode cX11_ran 6 = .ok (.getfield 52, 3) := by decide +kernel
theorem dX11_ran_9 : decode cX11_ran 9 = .ok (.iconst 0, 1) := by decide +kernel
theorem dX11_ran_10 : decode cX11_ran 10 = .ok (.iaload, 1) := by decide +kernel
theorem dX11_ran_11 : decode cX11_ran 11 = .ok (.iconst (-1), 1) := by decide +kernel
theorem dX11_ran_12 : decode cX11_ran 12 = .ok (.if_icmp .ne 5, 3) := by decide +kernel
theorem dX11_ran_15 : decode cX11_ran 15 = .ok (.iconst (-1), 1) := by decide +kernel
theorem dX11_ran_16 : decode cX11_ran 16 = .ok (.ireturn, 1) := by decide +kernel
theorem dX11_ran_17 : decode cX11_ran 17 = .ok (.iload_n 1, 1) := by decide +kernel
theorem dX11_ran_18 : decode cX11_ran 18 = .ok (.tableswitch 69 0 4 #[34, 41, 48, 55, 62], 34) := by decide +kernel
theorem dX11_ran_52 : decode cX11_ran 52 = .ok (.aload_n 0, 1) := by decide +kernel
theorem dX11_ran_53 : decode cX11_ran 53 = .ok (.getfield 55, 3) := by decide +kernel
theorem dX11_ran_56 : decode cX11_ran 56 = .ok (.iconst 0, 1) := by decide +kernel
theorem dX11_ran_57 : decode cX11_ran 57 = .ok (.iaload, 1) := by decide +kernel
theorem dX11_ran_58 : decode cX11_ran 58 = .ok (.ireturn, 1) := by decide +kernel
theorem dX11_ran_59 : decode cX11_ran 59 = .ok (.aload_n 0, 1) := by decide +kernel
theorem dX11_ran_60 : decode cX11_ran 60 = .ok (.getfield 58, 3) := by decide +kernel
theorem dX11_ran_63 : decode cX11_ran 63 = .ok (.iconst 0, 1) := by decide +kernel
theorem dX11_ran_64 : decode cX11_ran 64 = .ok (.iaload, 1) := by decide +kernel
theorem dX11_ran_65 : decode cX11_ran 65 = .ok (.ireturn, 1) := by decide +kernel
theorem dX11_ran_66 : decode cX11_ran 66 = .ok (.aload_n 0, 1) := by decide +kernel
theorem dX11_ran_67 : decode cX11_ran 67 = .ok (.getfield 64, 3) := by decide +kernel
theorem dX11_ran_70 : decode cX11_ran 70 = .ok (.iconst 0, 1) := by decide +kernel
theorem dX11_ran_71 : decode cX11_ran 71 = .ok (.iaload, 1) := by decide +kernel
theorem dX11_ran_72 : decode cX11_ran 72 = .ok (.ireturn, 1) := by decide +kernel
theorem dX11_ran_73 : decode cX11_ran 73 = .ok (.aload_n 0, 1) := by decide +kernel
theorem dX11_ran_74 : decode cX11_ran 74 = .ok (.getfield 70, 3) := by decide +kernel
theorem dX11_ran_77 : decode cX11_ran 77 = .ok (.iconst 0, 1) := by decide +kernel
theorem dX11_ran_78 : decode cX11_ran 78 = .ok (.iaload, 1) := by decide +kernel
theorem dX11_ran_79 : decode cX11_ran 79 = .ok (.ireturn, 1) := by decide +kernel
theorem dX11_ran_80 : decode cX11_ran 80 = .ok (.aload_n 0, 1) := by decide +kernel
theorem dX11_ran_81 : decode cX11_ran 81 = .ok (.getfield 61, 3) := by decide +kernel
theorem dX11_ran_84 : decode cX11_ran 84 = .ok (.iconst 0, 1) := by decide +kernel
theorem dX11_ran_85 : decode cX11_ran 85 = .ok (.iaload, 1) := by decide +kernel
theorem dX11_ran_86 : decode cX11_ran 86 = .ok (.ireturn, 1) := by decide +kernel
theorem dX11_ran_87 : decode cX11_ran 87 = .ok (.iconst (-1), 1) := by decide +kernel
theorem dX11_ran_88 : decode cX11_ran 88 = .ok (.ireturn, 1) := by decide +kernel
theorem dX11_had_0 : decode cX11_had 0 = .ok (.aload_n 0, 1) := by decide +kernel
theorem dX11_had_1 : decode cX11_had 1 = .ok (.iconst 0, 1) := by decide +kernel
theorem dX11_had_2 : decode cX11_had 2 = .ok (.putfield 134, 3) := by decide +kernel
theorem dX11_had_5 : decode cX11_had 5 = .ok (.aload_n 0, 1) := by decide +kernel
theorem dX11_had_6 : decode cX11_had 6 = .ok (.getfield 52, 3) := by decide +kernel
theorem dX11_had_9 : decode cX11_had 9 = .ok (.iconst 0, 1) := by decide +kernel
theorem dX11_had_10 : decode cX11_had 10 = .ok (.iaload, 1) := by decide +kernel
theorem dX11_had_11 : decode cX11_had 11 = .ok (.iconst (-1), 1) := by decide +kernel
theorem dX11_had_12 : decode cX11_had 12 = .ok (.if_icmp .ne 5, 3) := by decide +kernel
theorem dX11_had_15 : decode cX11_had 15 = .ok (.iconst 0, 1) := by decide +kernel
theorem dX11_had_16 : decode cX11_had 16 = .ok (.ireturn, 1) := by decide +kernel
theorem dX11_had_17 : decode cX11_had 17 = .ok (.iload_n 1, 1) := by decide +kernel
theorem dX11_had_18 : decode cX11_had 18 = .ok (.tableswitch 101 0 2 #[26, 53, 80], 26) := by decide +kernel
theorem dX11_had_44 : decode cX11_had 44 = .ok (.iload_n 2, 1) := by decide +kernel
theorem dX11_had_45 : decode cX11_had 45 = .ok (.iconst 0, 1) := by decide +kernel
theorem dX11_had_46 : decode cX11_had 46 = .ok (.aload_n 0, 1) := by decide +kernel
theorem dX11_had_47 : decode cX11_had 47 = .ok (.getfield 64, 3) := by decide +kernel
theorem dX11_had_50 : decode cX11_had 50 = .ok (.iconst 0, 1) := by decide +kernel
theorem dX11_had_51 : decode cX11_had 51 = .ok (.iaload, 1) := by decide +kernel
theorem dX11_had_52 : decode cX11_had 52 = .ok (.iconst 1, 1) := by decide +kernel
theorem dX11_had_53 : decode cX11_had 53 = .ok (.isub, 1) := by decide +kernel
theorem dX11_had_54 : decode cX11_had 54 = .ok (.invokestatic 142, 3) := by decide +kernel
theorem dX11_had_57 : decode cX11_had 57 = .ok (.ifCond .eq 12, 3) := by decide +kernel
theorem dX11_had_60 : decode cX11_had 60 = .ok (.aload_n 0, 1) := by decide +kernel
theorem dX11_had_61 : decode cX11_had 61 = .ok (.getfield 67, 3) := by decide +kernel
theorem dX11_had_64 : decode cX11_had 64 = .ok (.iload_n 2, 1) := by decide +kernel
theorem dX11_had_65 : decode cX11_had 65 = .ok (.iaload, 1) := by decide +kernel
theorem dX11_had_66 : decode cX11_had 66 = .ok (.goto 4, 3) := by decide +kernel
theorem dX11_had_69 : decode cX11_had 69 = .ok (.iconst 0, 1) := by decide +kernel
theorem dX11_had_70 : decode cX11_had 70 = .ok (.ireturn, 1) := by decide +kernel
theorem dX11_had_71 : decode cX11_had 71 = .ok (.iload_n 2, 1) := by decide +kernel
theorem dX11_had_72 : decode cX11_had 72 = .ok (.iconst 0, 1) := by decide +kernel
theorem dX11_had_73 : decode cX11_had 73 = .ok (.aload_n 0, 1) := by decide +kernel
theorem dX11_had_74 : decode cX11_had 74 = .ok (.getfield 70, 3) := by decide +kernel
theorem dX11_had_77 : decode cX11_had 77 = .ok (.iconst 0, 1) := by decide +kernel
theorem dX11_had_78 : decode cX11_had 78 = .ok (.iaload, 1) := by decide +kernel
theorem dX11_had_79 : decode cX11_had 79 = .ok (.iconst 1, 1) := by decide +kernel
theorem dX11_had_80 : decode cX11_had 80 = .ok (.isub, 1) := by decide +kernel
theorem dX11_had_81 : decode cX11_had 81 = .ok (.invokestatic 142, 3) := by decide +kernel
theorem dX11_had_84 : decode cX11_had 84 = .ok (.ifCond .eq 12, 3) := by decide +kernel
theorem dX11_had_87 : decode cX11_had 87 = .ok (.aload_n 0, 1) := by decide +kernel
theorem dX11_had_88 : decode cX11_had 88 = .ok (.getfield 73, 3) := by decide +kernel
theorem dX11_had_91 : decode cX11_had 91 = .ok (.iload_n 2, 1) := by decide +kernel
theorem dX11_had_92 : decode cX11_had 92 = .ok (.iaload, 1) := by decide +kernel
theorem dX11_had_93 : decode cX11_had 93 = .ok (.goto 4, 3) := by decide +kernel
theorem dX11_had_96 : decode cX11_had 96 = .ok (.iconst 0, 1) := by decide +kernel
theorem dX11_had_97 : decode cX11_had 97 = .ok (.ireturn, 1) := by decide +kernel
theorem dX11_had_98 : decode cX11_had 98 = .ok (.iload_n 2, 1) := by decide +kernel
theorem dX11_had_99 : decode cX11_had 99 = .ok (.iconst 0, 1) := by decide +kernel
theorem dX11_had_100 : decode cX11_had 100 = .ok (.bipush 7, 2) := by decide +kernel
theorem dX11_had_102 : decode cX11_had 102 = .ok (.invokestatic 142, 3) := by decide +kernel
theorem dX11_had_105 : decode cX11_had 105 = .ok (.ifCond .eq 12, 3) := by decide +kernel
theorem dX11_had_108 : decode cX11_had 108 = .ok (.aload_n 0, 1) := by decide +kernel
theorem dX11_had_109 : decode cX11_had 109 = .ok (.getfield 76, 3) := by decide +kernel
theorem dX11_had_112 : decode cX11_had 112 = .ok (.iload_n 2, 1) := by decide +kernel
theorem dX11_had_113 : decode cX11_had 113 = .ok (.iaload, 1) := by decide +kernel
theorem dX11_had_114 : decode cX11_had 114 = .ok (.goto 4, 3) := by decide +kernel
theorem dX11_had_117 : decode cX11_had 117 = .ok (.iconst 0, 1) := by decide +kernel
theorem dX11_had_118 : decode cX11_had 118 = .ok (.ireturn, 1) := by decide +kernel
theorem dX11_had_119 : decode cX11_had 119 = .ok (.iconst 0, 1) := by decide +kernel
theorem dX11_had_120 : decode cX11_had 120 = .ok (.ireturn, 1) := by decide +kernel
theorem dX11_cost_0 : decode cX11_cost 0 = .ok (.aload_n 0, 1) := by decide +kernel
theorem dX11_cost_1 : decode cX11_cost 1 = .ok (.iconst 0, 1) := by decide +kernel
theorem dX11_cost_2 : decode cX11_cost 2 = .ok (.putfield 134, 3) := by decide +kernel
theorem dX11_cost_5 : decode cX11_cost 5 = .ok (.aload_n 0, 1) := by decide +kernel
theorem dX11_cost_6 : decode cX11_cost 6 = .ok (.invokevirtual 180, 3) := by decide +kernel
theorem dX11_cost_9 : decode cX11_cost 9 = .ok (.aload_n 0, 1) := by decide +kernel
theorem dX11_cost_10 : decode cX11_cost 10 = .ok (.iload_n 1, 1) := by decide +kernel
theorem dX11_cost_11 : decode cX11_cost 11 = .ok (.ifCond .eq 7, 3) := by decide +kernel
theorem dX11_cost_14 : decode cX11_cost 14 = .ok (.iconst 1, 1) := by decide +kernel
theorem dX11_cost_15 : decode cX11_cost 15 = .ok (.goto 4, 3) := by decide +kernel
theorem dX11_cost_18 : decode cX11_cost 18 = .ok (.iconst 0, 1) := by decide +kernel
theorem dX11_cost_19 : decode cX11_cost 19 = .ok (.invokevirtual 208, 3) := by decide +kernel
theorem dX11_cost_22 : decode cX11_cost 22 = .ok (.ireturn, 1) := by decide +kernel
theorem dX11_putFound_0 : decode cX11_putFound 0 = .ok (.aload_n 0, 1) := by decide +kernel
theorem dX11_putFound_1 : decode cX11_putFound 1 = .ok (.getfield 211, 3) := by decide +kernel
theorem dX11_putFound_4 : decode cX11_putFound 4 = .ok (.istore_n 2, 1) := by decide +kernel
theorem dX11_putFound_5 : decode cX11_putFound 5 = .ok (.iload_n 2, 1) := by decide +kernel
theorem dX11_putFound_6 : decode cX11_putFound 6 = .ok (.ifCond .le 21, 3) := by decide +kernel
theorem dX11_putFound_9 : decode cX11_putFound 9 = .ok (.aload_n 0, 1) := by decide +kernel
theorem dX11_putFound_10 : decode cX11_putFound 10 = .ok (.getfield 113, 3) := by decide +kernel
theorem dX11_putFound_13 : decode cX11_putFound 13 = .ok (.iload_n 2, 1) := by decide +kernel
theorem dX11_putFound_14 : decode cX11_putFound 14 = .ok (.iconst 1, 1) := by decide +kernel
theorem dX11_putFound_15 : decode cX11_putFound 15 = .ok (.isub, 1) := by decide +kernel
theorem dX11_putFound_16 : decode cX11_putFound 16 = .ok (.iaload, 1) := by decide +kernel
theorem dX11_putFound_17 : decode cX11_putFound 17 = .ok (.iload_n 1, 1) := by decide +kernel
theorem dX11_putFound_18 : decode cX11_putFound 18 = .ok (.if_icmp .le 9, 3) := by decide +kernel
theorem dX11_putFound_21 : decode cX11_putFound 21 = .ok (.iinc 2 (-1), 3) := by decide +kernel
theorem dX11_putFound_24 : decode cX11_putFound 24 = .ok (.goto (-19), 3) := by decide +kernel
theorem dX11_putFound_27 : decode cX11_putFound 27 = .ok (.iload_n 2, 1) := by decide +kernel
theorem dX11_putFound_28 : decode cX11_putFound 28 = .ok (.ifCond .le 16, 3) := by decide +kernel
theorem dX11_putFound_31 : decode cX11_putFound 31 = .ok (.aload_n 0, 1) := by decide +kernel
theorem dX11_putFound_32 : decode cX11_putFound 32 = .ok (.getfield 113, 3) := by decide +kernel
theorem dX11_putFound_35 : decode cX11_putFound 35 = .ok (.iload_n 2, 1) := by decide +kernel
theorem dX11_putFound_36 : decode cX11_putFound 36 = .ok (.iconst 1, 1) := by decide +kernel
theorem dX11_putFound_37 : decode cX11_putFound 37 = .ok (.isub, 1) := by decide +kernel
theorem dX11_putFound_38 : decode cX11_putFound 38 = .ok (.iaload, 1) := by decide +kernel
theorem dX11_putFound_39 : decode cX11_putFound 39 = .ok (.iload_n 1, 1) := by decide +kernel
theorem dX11_putFound_40 : decode cX11_putFound 40 = .ok (.if_icmp .ne 4, 3) := by decide +kernel
theorem dX11_putFound_43 : decode cX11_putFound 43 = .ok (.return_, 1) := by decide +kernel
theorem dX11_putFound_44 : decode cX11_putFound 44 = .ok (.aload_n 0, 1) := by decide +kernel
theorem dX11_putFound_45 : decode cX11_putFound 45 = .ok (.getfield 211, 3) := by decide +kernel
theorem dX11_putFound_48 : decode cX11_putFound 48 = .ok (.istore_n 3, 1) := by decide +kernel
theorem dX11_putFound_49 : decode cX11_putFound 49 = .ok (.iload_n 3, 1) := by decide +kernel
theorem dX11_putFound_50 : decode cX11_putFound 50 = .ok (.iload_n 2, 1) := by decide +kernel
theorem dX11_putFound_51 : decode cX11_putFound 51 = .ok (.if_icmp .le 23, 3) := by decide +kernel
theorem dX11_putFound_54 : decode cX11_putFound 54 = .ok (.aload_n 0, 1) := by decide +kernel
theorem dX11_putFound_55 : decode cX11_putFound 55 = .ok (.getfield 113, 3) := by decide +kernel
theorem dX11_putFound_58 : decode cX11_putFound 58 = .ok (.iload_n 3, 1) := by decide +kernel
theorem dX11_putFound_59 : decode cX11_putFound 59 = .ok (.aload_n 0, 1) := by decide +kernel
theorem dX11_putFound_60 : decode cX11_putFound 60 = .ok (.getfield 113, 3) := by decide +kernel
theorem dX11_putFound_63 : decode cX11_putFound 63 = .ok (.iload_n 3, 1) := by decide +kernel
theorem dX11_putFound_64 : decode cX11_putFound 64 = .ok (.iconst 1, 1) := by decide +kernel
theorem dX11_putFound_65 : decode cX11_putFound 65 = .ok (.isub, 1) := by decide +kernel
theorem dX11_putFound_66 : decode cX11_putFound 66 = .ok (.iaload, 1) := by decide +kernel
theorem dX11_putFound_67 : decode cX11_putFound 67 = .ok (.iastore, 1) := by decide +kernel
theorem dX11_putFound_68 : decode cX11_putFound 68 = .ok (.iinc 3 (-1), 3) := by decide +kernel
theorem dX11_putFound_71 : decode cX11_putFound 71 = .ok (.goto (-22), 3) := by decide +kernel
theorem dX11_putFound_74 : decode cX11_putFound 74 = .ok (.aload_n 0, 1) := by decide +kernel
theorem dX11_putFound_75 : decode cX11_putFound 75 = .ok (.getfield 113, 3) := by decide +kernel
theorem dX11_putFound_78 : decode cX11_putFound 78 = .ok (.iload_n 2, 1) := by decide +kernel
theorem dX11_putFound_79 : decode cX11_putFound 79 = .ok (.iload_n 1, 1) := by decide +kernel
theorem dX11_putFound_80 : decode cX11_putFound 80 = .ok (.iastore, 1) := by decide +kernel
theorem dX11_putFound_81 : decode cX11_putFound 81 = .ok (.aload_n 0, 1) := by decide +kernel
theorem dX11_putFound_82 : decode cX11_putFound 82 = .ok (.dup, 1) := by decide +kernel
theorem dX11_putFound_83 : decode cX11_putFound 83 = .ok (.getfield 211, 3) := by decide +kernel
theorem dX11_putFound_86 : decode cX11_putFound 86 = .ok (.iconst 1, 1) := by decide +kernel
theorem dX11_putFound_87 : decode cX11_putFound 87 = .ok (.iadd, 1) := by decide +kernel
theorem dX11_putFound_88 : decode cX11_putFound 88 = .ok (.putfield 211, 3) := by decide +kernel
theorem dX11_putFound_91 : decode cX11_putFound 91 = .ok (.return_, 1) := by decide +kernel
theorem dX11_findRows_0 : decode cX11_findRows 0 = .ok (.aload_n 0, 1) := by decide +kernel
theorem dX11_findRows_1 : decode cX11_findRows 1 = .ok (.iconst 0, 1) := by decide +kernel
theorem dX11_findRows_2 : decode cX11_findRows 2 = .ok (.putfield 211, 3) := by decide +kernel
theorem dX11_findRows_5 : decode cX11_findRows 5 = .ok (.iconst 0, 1) := by decide +kernel
theorem dX11_findRows_6 : decode cX11_findRows 6 = .ok (.istore_n 1, 1) := by decide +kernel
theorem dX11_findRows_7 : decode cX11_findRows 7 = .ok (.iload_n 1, 1) := by decide +kernel
theorem dX11_findRows_8 : decode cX11_findRows 8 = .ok (.aload_n 0, 1) := by decide +kernel
theorem dX11_findRows_9 : decode cX11_findRows 9 = .ok (.getfield 7, 3) := by decide +kernel
theorem dX11_findRows_12 : decode cX11_findRows 12 = .ok (.iconst 0, 1) := by decide +kernel
theorem dX11_findRows_13 : decode cX11_findRows 13 = .ok (.iaload, 1) := by decide +kernel
theorem dX11_findRows_14 : decode cX11_findRows 14 = .ok (.if_icmp .ge 192, 3) := by decide +kernel
theorem dX11_findRows_17 : decode cX11_findRows 17 = .ok (.aload_n 0, 1) := by decide +kernel
theorem dX11_findRows_18 : decode cX11_findRows 18 = .ok (.iload_n 1, 1) := by decide +kernel
theorem dX11_findRows_19 : decode cX11_findRows 19 = .ok (.invokevirtual 167, 3) := by decide +kernel
theorem dX11_findRows_22 : decode cX11_findRows 22 = .ok (.iconst 0, 1) := by decide +kernel
theorem dX11_findRows_23 : decode cX11_findRows 23 = .ok (.istore_n 2, 1) := by decide +kernel
theorem dX11_findRows_24 : decode cX11_findRows 24 = .ok (.iload_n 2, 1) := by decide +kernel
theorem dX11_findRows_25 : decode cX11_findRows 25 = .ok (.aload_n 0, 1) := by decide +kernel
theorem dX11_findRows_26 : decode cX11_findRows 26 = .ok (.getfield 13, 3) := by decide +kernel
theorem dX11_findRows_29 : decode cX11_findRows 29 = .ok (.iload_n 1, 1) := by decide +kernel
theorem dX11_findRows_30 : decode cX11_findRows 30 = .ok (.iaload, 1) := by decide +kernel
theorem dX11_findRows_31 : decode cX11_findRows 31 = .ok (.if_icmp .ge 169, 3) := by decide +kernel
theorem dX11_findRows_34 : decode cX11_findRows 34 = .ok (.iconst 0, 1) := by decide +kernel
theorem dX11_findRows_35 : decode cX11_findRows 35 = .ok (.istore_n 3, 1) := by decide +kernel
theorem dX11_findRows_36 : decode cX11_findRows 36 = .ok (.iconst 1, 1) := by decide +kernel
theorem dX11_findRows_37 : decode cX11_findRows 37 = .ok (.istore 4, 2) := by decide +kernel
theorem dX11_findRows_39 : decode cX11_findRows 39 = .ok (.iconst 0, 1) := by decide +kernel
theorem dX11_findRows_40 : decode cX11_findRows 40 = .ok (.istore 5, 2) := by decide +kernel
theorem dX11_findRows_42 : decode cX11_findRows 42 = .ok (.iload 5, 2) := by decide +kernel
theorem dX11_findRows_44 : decode cX11_findRows 44 = .ok (.iconst 4, 1) := by decide +kernel
theorem dX11_findRows_45 : decode cX11_findRows 45 = .ok (.if_icmp .ge 149, 3) := by decide +kernel
theorem dX11_findRows_48 : decode cX11_findRows 48 = .ok (.iload 4, 2) := by decide +kernel
theorem dX11_findRows_50 : decode cX11_findRows 50 = .ok (.ifCond .eq 144, 3) := by decide +kernel
theorem dX11_findRows_53 : decode cX11_findRows 53 = .ok (.iload_n 2, 1) := by decide +kernel
theorem dX11_findRows_54 : decode cX11_findRows 54 = .ok (.iload 5, 2) := by decide +kernel
theorem dX11_findRows_56 : decode cX11_findRows 56 = .ok (.iadd, 1) := by decide +kernel
theorem dX11_findRows_57 : decode cX11_findRows 57 = .ok (.aload_n 0, 1) := by decide +kernel
theorem dX11_findRows_58 : decode cX11_findRows 58 = .ok (.getfield 13, 3) := by decide +kernel
theorem dX11_findRows_61 : decode cX11_findRows 61 = .ok (.iload_n 1, 1) := by decide +kernel
theorem dX11_findRows_62 : decode cX11_findRows 62 = .ok (.iaload, 1) := by decide +kernel
theorem dX11_findRows_63 : decode cX11_findRows 63 = .ok (.if_icmp .ge 131, 3) := by decide +kernel
theorem dX11_findRows_66 : decode cX11_findRows 66 = .ok (.aload_n 0, 1) := by decide +kernel
theorem dX11_findRows_67 : decode cX11_findRows 67 = .ok (.getfield 16, 3) := by decide +kernel
theorem dX11_findRows_70 : decode cX11_findRows 70 = .ok (.bipush 40, 2) := by decide +kernel
theorem dX11_findRows_72 : decode cX11_findRows 72 = .ok (.iload_n 1, 1) := by decide +kernel
theorem dX11_findRows_73 : decode cX11_findRows 73 = .ok (.imul, 1) := by decide +kernel
theorem dX11_findRows_74 : decode cX11_findRows 74 = .ok (.iload_n 2, 1) := by decide +kernel
theorem dX11_findRows_75 : decode cX11_findRows 75 = .ok (.iadd, 1) := by decide +kernel
theorem dX11_findRows_76 : decode cX11_findRows 76 = .ok (.iload 5, 2) := by decide +kernel
theorem dX11_findRows_78 : decode cX11_findRows 78 = .ok (.iadd, 1) := by decide +kernel
theorem dX11_findRows_79 : decode cX11_findRows 79 = .ok (.iaload, 1) := by decide +kernel
theorem dX11_findRows_80 : decode cX11_findRows 80 = .ok (.istore 6, 2) := by decide +kernel
theorem dX11_findRows_82 : decode cX11_findRows 82 = .ok (.iload 5, 2) := by decide +kernel
theorem dX11_findRows_84 : decode cX11_findRows 84 = .ok (.ifCond .eq 15, 3) := by decide +kernel
theorem dX11_findRows_87 : decode cX11_findRows 87 = .ok (.aload_n 0, 1) := by decide +kernel
theorem dX11_findRows_88 : decode cX11_findRows 88 = .ok (.getfield 94, 3) := by decide +kernel
theorem dX11_findRows_91 : decode cX11_findRows 91 = .ok (.iload_n 2, 1) := by decide +kernel
theorem dX11_findRows_92 : decode cX11_findRows 92 = .ok (.iload 5, 2) := by decide +kernel
theorem dX11_findRows_94 : decode cX11_findRows 94 = .ok (.iadd, 1) := by decide +kernel
theorem dX11_findRows_95 : decode cX11_findRows 95 = .ok (.baload, 1) := by decide +kernel
theorem dX11_findRows_96 : decode cX11_findRows 96 = .ok (.ifCond .ne 7, 3) := by decide +kernel
theorem dX11_findRows_99 : decode cX11_findRows 99 = .ok (.iconst 1, 1) := by decide +kernel
theorem dX11_findRows_100 : decode cX11_findRows 100 = .ok (.goto 4, 3) := by decide +kernel
theorem dX11_findRows_103 : decode cX11_findRows 103 = .ok (.iconst 0, 1) := by decide +kernel
theorem dX11_findRows_104 : decode cX11_findRows 104 = .ok (.istore 4, 2) := by decide +kernel
theorem dX11_findRows_106 : decode cX11_findRows 106 = .ok (.iload 5, 2) := by decide +kernel
theorem dX11_findRows_108 : decode cX11_findRows 108 = .ok (.ifCond .ne 9, 3) := by decide +kernel
theorem dX11_findRows_111 : decode cX11_findRows 111 = .ok (.sipush 4913, 3) := by decide +kernel
theorem dX11_findRows_114 : decode cX11_findRows 114 = .ok (.goto 27, 3) := by decide +kernel
theorem dX11_findRows_117 : decode cX11_findRows 117 = .ok (.iload 5, 2) := by decide +kernel
theorem dX11_findRows_119 : decode cX11_findRows 119 = .ok (.iconst 1, 1) := by decide +kernel
theorem dX11_findRows_120 : decode cX11_findRows 120 = .ok (.if_icmp .ne 9, 3) := by decide +kernel
theorem dX11_findRows_123 : decode cX11_findRows 123 = .ok (.sipush 289, 3) := by decide +kernel
theorem dX11_findRows_126 : decode cX11_findRows 126 = .ok (.goto 15, 3) := by decide +kernel
theorem dX11_findRows_129 : decode cX11_findRows 129 = .ok (.iload 5, 2) := by decide +kernel
theorem dX11_findRows_131 : decode cX11_findRows 131 = .ok (.iconst 2, 1) := by decide +kernel
theorem dX11_findRows_132 : decode cX11_findRows 132 = .ok (.if_icmp .ne 8, 3) := by decide +kernel
theorem dX11_findRows_135 : decode cX11_findRows 135 = .ok (.bipush 17, 2) := by decide +kernel
theorem dX11_findRows_137 : decode cX11_findRows 137 = .ok (.goto 4, 3) := by decide +kernel
theorem dX11_findRows_140 : decode cX11_findRows 140 = .ok (.iconst 1, 1) := by decide +kernel
theorem dX11_findRows_141 : decode cX11_findRows 141 = .ok (.istore 7, 2) := by decide +kernel
theorem dX11_findRows_143 : decode cX11_findRows 143 = .ok (.iload_n 3, 1) := by decide +kernel
theorem dX11_findRows_144 : decode cX11_findRows 144 = .ok (.iload 7, 2) := by decide +kernel
theorem dX11_findRows_146 : decode cX11_findRows 146 = .ok (.iload 6, 2) := by decide +kernel
theorem dX11_findRows_148 : decode cX11_findRows 148 = .ok (.iconst 1, 1) := by decide +kernel
theorem dX11_findRows_149 : decode cX11_findRows 149 = .ok (.iadd, 1) := by decide +kernel
theorem dX11_findRows_150 : decode cX11_findRows 150 = .ok (.imul, 1) := by decide +kernel
theorem dX11_findRows_151 : decode cX11_findRows 151 = .ok (.iadd, 1) := by decide +kernel
theorem dX11_findRows_152 : decode cX11_findRows 152 = .ok (.istore_n 3, 1) := by decide +kernel
theorem dX11_findRows_153 : decode cX11_findRows 153 = .ok (.iload 4, 2) := by decide +kernel
theorem dX11_findRows_155 : decode cX11_findRows 155 = .ok (.ifCond .eq 13, 3) := by decide +kernel
theorem dX11_findRows_158 : decode cX11_findRows 158 = .ok (.iload 5, 2) := by decide +kernel
theorem dX11_findRows_160 : decode cX11_findRows 160 = .ok (.ifCond .le 8, 3) := by decide +kernel
theorem dX11_findRows_163 : decode cX11_findRows 163 = .ok (.aload_n 0, 1) := by decide +kernel
theorem dX11_findRows_164 : decode cX11_findRows 164 = .ok (.iload_n 3, 1) := by decide +kernel
theorem dX11_findRows_165 : decode cX11_findRows 165 = .ok (.invokevirtual 214, 3) := by decide +kernel
theorem dX11_findRows_168 : decode cX11_findRows 168 = .ok (.iload 4, 2) := by decide +kernel
theorem dX11_findRows_170 : decode cX11_findRows 170 = .ok (.ifCond .eq 15, 3) := by decide +kernel
theorem dX11_findRows_173 : decode cX11_findRows 173 = .ok (.iload 6, 2) := by decide +kernel
theorem dX11_findRows_175 : decode cX11_findRows 175 = .ok (.invokestatic 164, 3) := by decide +kernel
theorem dX11_findRows_178 : decode cX11_findRows 178 = .ok (.ifCond .ne 7, 3) := by decide +kernel
theorem dX11_findRows_181 : decode cX11_findRows 181 = .ok (.iconst 1, 1) := by decide +kernel
theorem dX11_findRows_182 : decode cX11_findRows 182 = .ok (.goto 4, 3) := by decide +kernel
theorem dX11_findRows_185 : decode cX11_findRows 185 = .ok (.iconst 0, 1) := by decide +kernel
theorem dX11_findRows_186 : decode cX11_findRows 186 = .ok (.istore 4, 2) := by decide +kernel
theorem dX11_findRows_188 : decode cX11_findRows 188 = .ok (.iinc 5 1, 3) := by decide +kernel
theorem dX11_findRows_191 : decode cX11_findRows 191 = .ok (.goto (-149), 3) := by decide +kernel
theorem dX11_findRows_194 : decode cX11_findRows 194 = .ok (.iinc 2 1, 3) := by decide +kernel
theorem dX11_findRows_197 : decode cX11_findRows 197 = .ok (.goto (-173), 3) := by decide +kernel
theorem dX11_findRows_200 : decode cX11_findRows 200 = .ok (.iinc 1 1, 3) := by decide +kernel
theorem dX11_findRows_203 : decode cX11_findRows 203 = .ok (.goto (-196), 3) := by decide +kernel
theorem dX11_findRows_206 : decode cX11_findRows 206 = .ok (.return_, 1) := by decide +kernel
theorem dX11_tryRow_0 : decode cX11_tryRow 0 = .ok (.iconst 0, 1) := by decide +kernel
theorem dX11_tryRow_1 : decode cX11_tryRow 1 = .ok (.istore_n 3, 1) := by decide +kernel
theorem dX11_tryRow_2 : decode cX11_tryRow 2 = .ok (.iload_n 2, 1) := by decide +kernel
theorem dX11_tryRow_3 : decode cX11_tryRow 3 = .ok (.istore 4, 2) := by decide +kernel
theorem dX11_tryRow_5 : decode cX11_tryRow 5 = .ok (.sipush 4913, 3) := by decide +kernel
theorem dX11_tryRow_8 : decode cX11_tryRow 8 = .ok (.istore 5, 2) := by decide +kernel
theorem dX11_tryRow_10 : decode cX11_tryRow 10 = .ok (.iload 5, 2) := by decide +kernel
theorem dX11_tryRow_12 : decode cX11_tryRow 12 = .ok (.ifCond .le 49, 3) := by decide +kernel
theorem dX11_tryRow_15 : decode cX11_tryRow 15 = .ok (.iload 4, 2) := by decide +kernel
theorem dX11_tryRow_17 : decode cX11_tryRow 17 = .ok (.iload 5, 2) := by decide +kernel
theorem dX11_tryRow_19 : decode cX11_tryRow 19 = .ok (.idiv, 1) := by decide +kernel
theorem dX11_tryRow_20 : decode cX11_tryRow 20 = .ok (.istore 6, 2) := by decide +kernel
theorem dX11_tryRow_22 : decode cX11_tryRow 22 = .ok (.iload 4, 2) := by decide +kernel
theorem dX11_tryRow_24 : decode cX11_tryRow 24 = .ok (.iload 5, 2) := by decide +kernel
theorem dX11_tryRow_26 : decode cX11_tryRow 26 = .ok (.irem, 1) := by decide +kernel
theorem dX11_tryRow_27 : decode cX11_tryRow 27 = .ok (.istore 4, 2) := by decide +kernel
theorem dX11_tryRow_29 : decode cX11_tryRow 29 = .ok (.iload 6, 2) := by decide +kernel
theorem dX11_tryRow_31 : decode cX11_tryRow 31 = .ok (.ifCond .le 20, 3) := by decide +kernel
theorem dX11_tryRow_34 : decode cX11_tryRow 34 = .ok (.iinc 3 1, 3) := by decide +kernel
theorem dX11_tryRow_37 : decode cX11_tryRow 37 = .ok (.aload_n 0, 1) := by decide +kernel
theorem dX11_tryRow_38 : decode cX11_tryRow 38 = .ok (.getfield 91, 3) := by decide +kernel
theorem dX11_tryRow_41 : decode cX11_tryRow 41 = .ok (.iconst 5, 1) := by decide +kernel
theorem dX11_tryRow_42 : decode cX11_tryRow 42 = .ok (.iload_n 1, 1) := by decide +kernel
theorem dX11_tryRow_43 : decode cX11_tryRow 43 = .ok (.imul, 1) := by decide +kernel
theorem dX11_tryRow_44 : decode cX11_tryRow 44 = .ok (.iload_n 3, 1) := by decide +kernel
theorem dX11_tryRow_45 : decode cX11_tryRow 45 = .ok (.iadd, 1) := by decide +kernel
theorem dX11_tryRow_46 : decode cX11_tryRow 46 = .ok (.iload 6, 2) := by decide +kernel
theorem dX11_tryRow_48 : decode cX11_tryRow 48 = .ok (.iconst 1, 1) := by decide +kernel
theorem dX11_tryRow_49 : decode cX11_tryRow 49 = .ok (.isub, 1) := by decide +kernel
theorem dX11_tryRow_50 : decode cX11_tryRow 50 = .ok (.iastore, 1) := by decide +kernel
theorem dX11_tryRow_51 : decode cX11_tryRow 51 = .ok (.iload 5, 2) := by decide +kernel
theorem dX11_tryRow_53 : decode cX11_tryRow 53 = .ok (.bipush 17, 2) := by decide +kernel
theorem dX11_tryRow_55 : decode cX11_tryRow 55 = .ok (.idiv, 1) := by decide +kernel
theorem dX11_tryRow_56 : decode cX11_tryRow 56 = .ok (.istore 5, 2) := by decide +kernel
theorem dX11_tryRow_58 : decode cX11_tryRow 58 = .ok (.goto (-48), 3) := by decide +kernel
theorem dX11_tryRow_61 : decode cX11_tryRow 61 = .ok (.aload_n 0, 1) := by decide +kernel
theorem dX11_tryRow_62 : decode cX11_tryRow 62 = .ok (.getfield 91, 3) := by decide +kernel
theorem dX11_tryRow_65 : decode cX11_tryRow 65 = .ok (.iconst 5, 1) := by decide +kernel
theorem dX11_tryRow_66 : decode cX11_tryRow 66 = .ok (.iload_n 1, 1) := by decide +kernel
theorem dX11_tryRow_67 : decode cX11_tryRow 67 = .ok (.imul, 1) := by decide +kernel
theorem dX11_tryRow_68 : decode cX11_tryRow 68 = .ok (.iload_n 3, 1) := by decide +kernel
theorem dX11_tryRow_69 : decode cX11_tryRow 69 = .ok (.iastore, 1) := by decide +kernel
theorem dX11_tryRow_70 : decode cX11_tryRow 70 = .ok (.return_, 1) := by decide +kernel
theorem dX11_tryNow_0 : decode cX11_tryNow 0 = .ok (.aload_n 0, 1) := by decide +kernel
theorem dX11_tryNow_1 : decode cX11_tryNow 1 = .ok (.iload_n 1, 1) := by decide +kernel
theorem dX11_tryNow_2 : decode cX11_tryNow 2 = .ok (.putfield 170, 3) := by decide +kernel
theorem dX11_tryNow_5 : decode cX11_tryNow 5 = .ok (.iconst 0, 1) := by decide +kernel
theorem dX11_tryNow_6 : decode cX11_tryNow 6 = .ok (.istore_n 3, 1) := by decide +kernel
theorem dX11_tryNow_7 : decode cX11_tryNow 7 = .ok (.iload_n 3, 1) := by decide +kernel
theorem dX11_tryNow_8 : decode cX11_tryNow 8 = .ok (.iload_n 1, 1) := by decide +kernel
theorem dX11_tryNow_9 : decode cX11_tryNow 9 = .ok (.if_icmp .ge 25, 3) := by decide +kernel
theorem dX11_tryNow_12 : decode cX11_tryNow 12 = .ok (.aload_n 0, 1) := by decide +kernel
theorem dX11_tryNow_13 : decode cX11_tryNow 13 = .ok (.iload_n 3, 1) := by decide +kernel
theorem dX11_tryNow_14 : decode cX11_tryNow 14 = .ok (.aload_n 0, 1) := by decide +kernel
theorem dX11_tryNow_15 : decode cX11_tryNow 15 = .ok (.getfield 113, 3) := by decide +kernel
theorem dX11_tryNow_18 : decode cX11_tryNow 18 = .ok (.aload_n 0, 1) := by decide +kernel
theorem dX11_tryNow_19 : decode cX11_tryNow 19 = .ok (.getfield 122, 3) := by decide +kernel
theorem dX11_tryNow_22 : decode cX11_tryNow 22 = .ok (.iload_n 3, 1) := by decide +kernel
theorem dX11_tryNow_23 : decode cX11_tryNow 23 = .ok (.iaload, 1) := by decide +kernel
theorem dX11_tryNow_24 : decode cX11_tryNow 24 = .ok (.iaload, 1) := by decide +kernel
theorem dX11_tryNow_25 : decode cX11_tryNow 25 = .ok (.invokevirtual 217, 3) := by decide +kernel
theorem dX11_tryNow_28 : decode cX11_tryNow 28 = .ok (.iinc 3 1, 3) := by decide +kernel
theorem dX11_tryNow_31 : decode cX11_tryNow 31 = .ok (.goto (-24), 3) := by decide +kernel
theorem dX11_tryNow_34 : decode cX11_tryNow 34 = .ok (.aload_n 0, 1) := by decide +kernel
theorem dX11_tryNow_35 : decode cX11_tryNow 35 = .ok (.iload_n 2, 1) := by decide +kernel
theorem dX11_tryNow_36 : decode cX11_tryNow 36 = .ok (.invokevirtual 208, 3) := by decide +kernel
theorem dX11_tryNow_39 : decode cX11_tryNow 39 = .ok (.istore_n 3, 1) := by decide +kernel
theorem dX11_tryNow_40 : decode cX11_tryNow 40 = .ok (.iload_n 3, 1) := by decide +kernel
theorem dX11_tryNow_41 : decode cX11_tryNow 41 = .ok (.aload_n 0, 1) := by decide +kernel
theorem dX11_tryNow_42 : decode cX11_tryNow 42 = .ok (.getfield 220, 3) := by decide +kernel
theorem dX11_tryNow_45 : decode cX11_tryNow 45 = .ok (.if_icmp .ge 42, 3) := by decide +kernel
theorem dX11_tryNow_48 : decode cX11_tryNow 48 = .ok (.aload_n 0, 1) := by decide +kernel
theorem dX11_tryNow_49 : decode cX11_tryNow 49 = .ok (.iload_n 3, 1) := by decide +kernel
theorem dX11_tryNow_50 : decode cX11_tryNow 50 = .ok (.putfield 220, 3) := by decide +kernel
theorem dX11_tryNow_53 : decode cX11_tryNow 53 = .ok (.aload_n 0, 1) := by decide +kernel
theorem dX11_tryNow_54 : decode cX11_tryNow 54 = .ok (.iload_n 1, 1) := by decide +kernel
theorem dX11_tryNow_55 : decode cX11_tryNow 55 = .ok (.putfield 223, 3) := by decide +kernel
theorem dX11_tryNow_58 : decode cX11_tryNow 58 = .ok (.iconst 0, 1) := by decide +kernel
theorem dX11_tryNow_59 : decode cX11_tryNow 59 = .ok (.istore 4, 2) := by decide +kernel
theorem dX11_tryNow_61 : decode cX11_tryNow 61 = .ok (.iload 4, 2) := by decide +kernel
theorem dX11_tryNow_63 : decode cX11_tryNow 63 = .ok (.iload_n 1, 1) := by decide +kernel
theorem dX11_tryNow_64 : decode cX11_tryNow 64 = .ok (.if_icmp .ge 23, 3) := by decide +kernel
theorem dX11_tryNow_67 : decode cX11_tryNow 67 = .ok (.aload_n 0, 1) := by decide +kernel
theorem dX11_tryNow_68 : decode cX11_tryNow 68 = .ok (.getfield 119, 3) := by decide +kernel
theorem dX11_tryNow_71 : decode cX11_tryNow 71 = .ok (.iload 4, 2) := by decide +kernel
theorem dX11_tryNow_73 : decode cX11_tryNow 73 = .ok (.aload_n 0, 1) := by decide +kernel
theorem dX11_tryNow_74 : decode cX11_tryNow 74 = .ok (.getfield 122, 3) := by decide +kernel
theorem dX11_tryNow_77 : decode cX11_tryNow 77 = .ok (.iload 4, 2) := by decide +kernel
theorem dX11_tryNow_79 : decode cX11_tryNow 79 = .ok (.iaload, 1) := by decide +kernel
theorem dX11_tryNow_80 : decode cX11_tryNow 80 = .ok (.iastore, 1) := by decide +kernel
theorem dX11_tryNow_81 : decode cX11_tryNow 81 = .ok (.iinc 4 1, 3) := by decide +kernel
theorem dX11_tryNow_84 : decode cX11_tryNow 84 = .ok (.goto (-23), 3) := by decide +kernel
theorem dX11_tryNow_87 : decode cX11_tryNow 87 = .ok (.return_, 1) := by decide +kernel
theorem dX11_choose_0 : decode cX11_choose 0 = .ok (.aload_n 0, 1) := by decide +kernel
theorem dX11_choose_1 : decode cX11_choose 1 = .ok (.iconst 0, 1) := by decide +kernel
theorem dX11_choose_2 : decode cX11_choose 2 = .ok (.putfield 134, 3) := by decide +kernel
theorem dX11_choose_5 : decode cX11_choose 5 = .ok (.iload_n 1, 1) := by decide +kernel
theorem dX11_choose_6 : decode cX11_choose 6 = .ok (.iconst 1, 1) := by decide +kernel
theorem dX11_choose_7 : decode cX11_choose 7 = .ok (.iconst 2, 1) := by decide +kernel
theorem dX11_choose_8 : decode cX11_choose 8 = .ok (.invokestatic 142, 3) := by decide +kernel
theorem dX11_choose_11 : decode cX11_choose 11 = .ok (.ifCond .ne 5, 3) := by decide +kernel
theorem dX11_choose_14 : decode cX11_choose 14 = .ok (.iconst (-1), 1) := by decide +kernel
theorem dX11_choose_15 : decode cX11_choose 15 = .ok (.ireturn, 1) := by decide +kernel
theorem dX11_choose_16 : decode cX11_choose 16 = .ok (.iload_n 2, 1) := by decide +kernel
theorem dX11_choose_17 : decode cX11_choose 17 = .ok (.ifCond .eq 7, 3) := by decide +kernel
theorem dX11_choose_20 : decode cX11_choose 20 = .ok (.iconst 1, 1) := by decide +kernel
theorem dX11_choose_21 : decode cX11_choose 21 = .ok (.goto 4, 3) := by decide +kernel
theorem dX11_choose_24 : decode cX11_choose 24 = .ok (.iconst 0, 1) := by decide +kernel
theorem dX11_choose_25 : decode cX11_choose 25 = .ok (.istore_n 3, 1) := by decide +kernel
theorem dX11_choose_26 : decode cX11_choose 26 = .ok (.aload_n 0, 1) := by decide +kernel
theorem dX11_choose_27 : decode cX11_choose 27 = .ok (.invokevirtual 226, 3) := by decide +kernel
theorem dX11_choose_30 : decode cX11_choose 30 = .ok (.aload_n 0, 1) := by decide +kernel
theorem dX11_choose_31 : decode cX11_choose 31 = .ok (.iconst 0, 1) := by decide +kernel
theorem dX11_choose_32 : decode cX11_choose 32 = .ok (.putfield 170, 3) := by decide +kernel
theorem dX11_choose_35 : decode cX11_choose 35 = .ok (.aload_n 0, 1) := by decide +kernel
theorem dX11_choose_36 : decode cX11_choose 36 = .ok (.iload_n 3, 1) := by decide +kernel
theorem dX11_choose_37 : decode cX11_choose 37 = .ok (.invokevirtual 208, 3) := by decide +kernel
theorem dX11_choose_40 : decode cX11_choose 40 = .ok (.istore 4, 2) := by decide +kernel
theorem dX11_choose_42 : decode cX11_choose 42 = .ok (.aload_n 0, 1) := by decide +kernel
theorem dX11_choose_43 : decode cX11_choose 43 = .ok (.iload 4, 2) := by decide +kernel
theorem dX11_choose_45 : decode cX11_choose 45 = .ok (.putfield 220, 3) := by decide +kernel
theorem dX11_choose_48 : decode cX11_choose 48 = .ok (.aload_n 0, 1) := by decide +kernel
theorem dX11_choose_49 : decode cX11_choose 49 = .ok (.iconst 0, 1) := by decide +kernel
theorem dX11_choose_50 : decode cX11_choose 50 = .ok (.putfield 223, 3) := by decide +kernel
theorem dX11_choose_53 : decode cX11_choose 53 = .ok (.iconst 0, 1) := by decide +kernel
theorem dX11_choose_54 : decode cX11_choose 54 = .ok (.istore 5, 2) := by decide +kernel
theorem dX11_choose_56 : decode cX11_choose 56 = .ok (.iload 5, 2) := by decide +kernel
theorem dX11_choose_58 : decode cX11_choose 58 = .ok (.aload_n 0, 1) := by decide +kernel
theorem dX11_choose_59 : decode cX11_choose 59 = .ok (.getfield 211, 3) := by decide +kernel
theorem dX11_choose_62 : decode cX11_choose 62 = .ok (.if_icmp .ge 41, 3) := by decide +kernel
theorem dX11_choose_65 : decode cX11_choose 65 = .ok (.aload_n 0, 1) := by decide +kernel
theorem dX11_choose_66 : decode cX11_choose 66 = .ok (.iconst 1, 1) := by decide +kernel
theorem dX11_choose_67 : decode cX11_choose 67 = .ok (.putfield 170, 3) := by decide +kernel
theorem dX11_choose_70 : decode cX11_choose 70 = .ok (.aload_n 0, 1) := by decide +kernel
theorem dX11_choose_71 : decode cX11_choose 71 = .ok (.iconst 0, 1) := by decide +kernel
theorem dX11_choose_72 : decode cX11_choose 72 = .ok (.aload_n 0, 1) := by decide +kernel
theorem dX11_choose_73 : decode cX11_choose 73 = .ok (.getfield 113, 3) := by decide +kernel
theorem dX11_choose_76 : decode cX11_choose 76 = .ok (.iload 5, 2) := by decide +kernel
theorem dX11_choose_78 : decode cX11_choose 78 = .ok (.iaload, 1) := by decide +kernel
theorem dX11_choose_79 : decode cX11_choose 79 = .ok (.invokevirtual 217, 3) := by decide +kernel
theorem dX11_choose_82 : decode cX11_choose 82 = .ok (.aload_n 0, 1) := by decide +kernel
theorem dX11_choose_83 : decode cX11_choose 83 = .ok (.getfield 116, 3) := by decide +kernel
theorem dX11_choose_86 : decode cX11_choose 86 = .ok (.iload 5, 2) := by decide +kernel
theorem dX11_choose_88 : decode cX11_choose 88 = .ok (.iload 4, 2) := by decide +kernel
theorem dX11_choose_90 : decode cX11_choose 90 = .ok (.aload_n 0, 1) := by decide +kernel
theorem dX11_choose_91 : decode cX11_choose 91 = .ok (.iload_n 3, 1) := by decide +kernel
theorem dX11_choose_92 : decode cX11_choose 92 = .ok (.invokevirtual 208, 3) := by decide +kernel
theorem dX11_choose_95 : decode cX11_choose 95 = .ok (.isub, 1) := by decide +kernel
theorem dX11_choose_96 : decode cX11_choose 96 = .ok (.iastore, 1) := by decide +kernel
theorem dX11_choose_97 : decode cX11_choose 97 = .ok (.iinc 5 1, 3) := by decide +kernel
theorem dX11_choose_100 : decode cX11_choose 100 = .ok (.goto (-44), 3) := by decide +kernel
theorem dX11_choose_103 : decode cX11_choose 103 = .ok (.iconst 0, 1) := by decide +kernel
theorem dX11_choose_104 : decode cX11_choose 104 = .ok (.istore 5, 2) := by decide +kernel
theorem dX11_choose_106 : decode cX11_choose 106 = .ok (.iconst 0, 1) := by decide +kernel
theorem dX11_choose_107 : decode cX11_choose 107 = .ok (.istore 6, 2) := by decide +kernel
theorem dX11_choose_109 : decode cX11_choose 109 = .ok (.iload 6, 2) := by decide +kernel
theorem dX11_choose_111 : decode cX11_choose 111 = .ok (.aload_n 0, 1) := by decide +kernel
theorem dX11_choose_112 : decode cX11_choose 112 = .ok (.getfield 211, 3) := by decide +kernel
theorem dX11_choose_115 : decode cX11_choose 115 = .ok (.if_icmp .ge 66, 3) := by decide +kernel
theorem dX11_choose_118 : decode cX11_choose 118 = .ok (.aload_n 0, 1) := by decide +kernel
theorem dX11_choose_119 : decode cX11_choose 119 = .ok (.getfield 122, 3) := by decide +kernel
theorem dX11_choose_122 : decode cX11_choose 122 = .ok (.iconst 0, 1) := by decide +kernel
theorem dX11_choose_123 : decode cX11_choose 123 = .ok (.iload 6, 2) := by decide +kernel
theorem dX11_choose_125 : decode cX11_choose 125 = .ok (.iastore, 1) := by decide +kernel
theorem dX11_choose_126 : decode cX11_choose 126 = .ok (.aload_n 0, 1) := by decide +kernel
theorem dX11_choose_127 : decode cX11_choose 127 = .ok (.getfield 116, 3) := by decide +kernel
theorem dX11_choose_130 : decode cX11_choose 130 = .ok (.iload 6, 2) := by decide +kernel
theorem dX11_choose_132 : decode cX11_choose 132 = .ok (.iaload, 1) := by decide +kernel
theorem dX11_choose_133 : decode cX11_choose 133 = .ok (.iload 5, 2) := by decide +kernel
theorem dX11_choose_135 : decode cX11_choose 135 = .ok (.if_icmp .le 13, 3) := by decide +kernel
theorem dX11_choose_138 : decode cX11_choose 138 = .ok (.aload_n 0, 1) := by decide +kernel
theorem dX11_choose_139 : decode cX11_choose 139 = .ok (.getfield 116, 3) := by decide +kernel
theorem dX11_choose_142 : decode cX11_choose 142 = .ok (.iload 6, 2) := by decide +kernel
theorem dX11_choose_144 : decode cX11_choose 144 = .ok (.iaload, 1) := by decide +kernel
theorem dX11_choose_145 : decode cX11_choose 145 = .ok (.goto 5, 3) := by decide +kernel
theorem dX11_choose_148 : decode cX11_choose 148 = .ok (.iload 5, 2) := by decide +kernel
theorem dX11_choose_150 : decode cX11_choose 150 = .ok (.istore 5, 2) := by decide +kernel
theorem dX11_choose_152 : decode cX11_choose 152 = .ok (.aload_n 0, 1) := by decide +kernel
theorem dX11_choose_153 : decode cX11_choose 153 = .ok (.getfield 116, 3) := by decide +kernel
theorem dX11_choose_156 : decode cX11_choose 156 = .ok (.iload 6, 2) := by decide +kernel
theorem dX11_choose_158 : decode cX11_choose 158 = .ok (.iaload, 1) := by decide +kernel
theorem dX11_choose_159 : decode cX11_choose 159 = .ok (.iload 4, 2) := by decide +kernel
theorem dX11_choose_161 : decode cX11_choose 161 = .ok (.aload_n 0, 1) := by decide +kernel
theorem dX11_choose_162 : decode cX11_choose 162 = .ok (.getfield 220, 3) := by decide +kernel
theorem dX11_choose_165 : decode cX11_choose 165 = .ok (.isub, 1) := by decide +kernel
theorem dX11_choose_166 : decode cX11_choose 166 = .ok (.if_icmp .le 9, 3) := by decide +kernel
theorem dX11_choose_169 : decode cX11_choose 169 = .ok (.aload_n 0, 1) := by decide +kernel
theorem dX11_choose_170 : decode cX11_choose 170 = .ok (.iconst 1, 1) := by decide +kernel
theorem dX11_choose_171 : decode cX11_choose 171 = .ok (.iload_n 3, 1) := by decide +kernel
theorem dX11_choose_172 : decode cX11_choose 172 = .ok (.invokevirtual 229, 3) := by decide +kernel
theorem dX11_choose_175 : decode cX11_choose 175 = .ok (.iinc 6 1, 3) := by decide +kernel
theorem dX11_choose_178 : decode cX11_choose 178 = .ok (.goto (-69), 3) := by decide +kernel
theorem dX11_choose_181 : decode cX11_choose 181 = .ok (.iconst 0, 1) := by decide +kernel
theorem dX11_choose_182 : decode cX11_choose 182 = .ok (.istore 6, 2) := by decide +kernel
theorem dX11_choose_184 : decode cX11_choose 184 = .ok (.iload_n 1, 1) := by decide +kernel
theorem dX11_choose_185 : decode cX11_choose 185 = .ok (.iconst 1, 1) := by decide +kernel
theorem dX11_choose_186 : decode cX11_choose 186 = .ok (.if_icmp .le 106, 3) := by decide +kernel
theorem dX11_choose_189 : decode cX11_choose 189 = .ok (.iload 6, 2) := by decide +kernel
theorem dX11_choose_191 : decode cX11_choose 191 = .ok (.aload_n 0, 1) := by decide +kernel
theorem dX11_choose_192 : decode cX11_choose 192 = .ok (.getfield 211, 3) := by decide +kernel
theorem dX11_choose_195 : decode cX11_choose 195 = .ok (.if_icmp .ge 97, 3) := by decide +kernel
theorem dX11_choose_198 : decode cX11_choose 198 = .ok (.iload 6, 2) := by decide +kernel
theorem dX11_choose_200 : decode cX11_choose 200 = .ok (.iconst 1, 1) := by decide +kernel
theorem dX11_choose_201 : decode cX11_choose 201 = .ok (.iadd, 1) := by decide +kernel
theorem dX11_choose_202 : decode cX11_choose 202 = .ok (.istore 7, 2) := by decide +kernel
theorem dX11_choose_204 : decode cX11_choose 204 = .ok (.iload 7, 2) := by decide +kernel
theorem dX11_choose_206 : decode cX11_choose 206 = .ok (.aload_n 0, 1) := by decide +kernel
theorem dX11_choose_207 : decode cX11_choose 207 = .ok (.getfield 211, 3) := by decide +kernel
theorem dX11_choose_210 : decode cX11_choose 210 = .ok (.if_icmp .ge 76, 3) := by decide +kernel
theorem dX11_choose_213 : decode cX11_choose 213 = .ok (.aload_n 0, 1) := by decide +kernel
theorem dX11_choose_214 : decode cX11_choose 214 = .ok (.getfield 116, 3) := by decide +kernel
theorem dX11_choose_217 : decode cX11_choose 217 = .ok (.iload 6, 2) := by decide +kernel
theorem dX11_choose_219 : decode cX11_choose 219 = .ok (.iaload, 1) := by decide +kernel
theorem dX11_choose_220 : decode cX11_choose 220 = .ok (.iload 5, 2) := by decide +kernel
theorem dX11_choose_222 : decode cX11_choose 222 = .ok (.iadd, 1) := by decide +kernel
theorem dX11_choose_223 : decode cX11_choose 223 = .ok (.iload 4, 2) := by decide +kernel
theorem dX11_choose_225 : decode cX11_choose 225 = .ok (.aload_n 0, 1) := by decide +kernel
theorem dX11_choose_226 : decode cX11_choose 226 = .ok (.getfield 220, 3) := by decide +kernel
theorem dX11_choose_229 : decode cX11_choose 229 = .ok (.isub, 1) := by decide +kernel
theorem dX11_choose_230 : decode cX11_choose 230 = .ok (.if_icmp .le 56, 3) := by decide +kernel
theorem dX11_choose_233 : decode cX11_choose 233 = .ok (.aload_n 0, 1) := by decide +kernel
theorem dX11_choose_234 : decode cX11_choose 234 = .ok (.getfield 116, 3) := by decide +kernel
theorem dX11_choose_237 : decode cX11_choose 237 = .ok (.iload 6, 2) := by decide +kernel
theorem dX11_choose_239 : decode cX11_choose 239 = .ok (.iaload, 1) := by decide +kernel
theorem dX11_choose_240 : decode cX11_choose 240 = .ok (.aload_n 0, 1) := by decide +kernel
theorem dX11_choose_241 : decode cX11_choose 241 = .ok (.getfield 116, 3) := by decide +kernel
theorem dX11_choose_244 : decode cX11_choose 244 = .ok (.iload 7, 2) := by decide +kernel
theorem dX11_choose_246 : decode cX11_choose 246 = .ok (.iaload, 1) := by decide +kernel
theorem dX11_choose_247 : decode cX11_choose 247 = .ok (.iadd, 1) := by decide +kernel
theorem dX11_choose_248 : decode cX11_choose 248 = .ok (.iload 4, 2) := by decide +kernel
theorem dX11_choose_250 : decode cX11_choose 250 = .ok (.aload_n 0, 1) := by decide +kernel
theorem dX11_choose_251 : decode cX11_choose 251 = .ok (.getfield 220, 3) := by decide +kernel
theorem dX11_choose_254 : decode cX11_choose 254 = .ok (.isub, 1) := by decide +kernel
theorem dX11_choose_255 : decode cX11_choose 255 = .ok (.if_icmp .le 25, 3) := by decide +kernel
theorem dX11_choose_258 : decode cX11_choose 258 = .ok (.aload_n 0, 1) := by decide +kernel
theorem dX11_choose_259 : decode cX11_choose 259 = .ok (.getfield 122, 3) := by decide +kernel
theorem dX11_choose_262 : decode cX11_choose 262 = .ok (.iconst 0, 1) := by decide +kernel
theorem dX11_choose_263 : decode cX11_choose 263 = .ok (.iload 6, 2) := by decide +kernel
theorem dX11_choose_265 : decode cX11_choose 265 = .ok (.iastore, 1) := by decide +kernel
theorem dX11_choose_266 : decode cX11_choose 266 = .ok (.aload_n 0, 1) := by decide +kernel
theorem dX11_choose_267 : decode cX11_choose 267 = .ok (.getfield 122, 3) := by decide +kernel
theorem dX11_choose_270 : decode cX11_choose 270 = .ok (.iconst 1, 1) := by decide +kernel
theorem dX11_choose_271 : decode cX11_choose 271 = .ok (.iload 7, 2) := by decide +kernel
theorem dX11_choose_273 : decode cX11_choose 273 = .ok (.iastore, 1) := by decide +kernel
theorem dX11_choose_274 : decode cX11_choose 274 = .ok (.aload_n 0, 1) := by decide +kernel
theorem dX11_choose_275 : decode cX11_choose 275 = .ok (.iconst 2, 1) := by decide +kernel
theorem dX11_choose_276 : decode cX11_choose 276 = .ok (.iload_n 3, 1) := by decide +kernel
theorem dX11_choose_277 : decode cX11_choose 277 = .ok (.invokevirtual 229, 3) := by decide +kernel
theorem dX11_choose_280 : decode cX11_choose 280 = .ok (.iinc 7 1, 3) := by decide +kernel
theorem dX11_choose_283 : decode cX11_choose 283 = .ok (.goto (-79), 3) := by decide +kernel
theorem dX11_choose_286 : decode cX11_choose 286 = .ok (.iinc 6 1, 3) := by decide +kernel
theorem dX11_choose_289 : decode cX11_choose 289 = .ok (.goto (-105), 3) := by decide +kernel
theorem dX11_choose_292 : decode cX11_choose 292 = .ok (.aload_n 0, 1) := by decide +kernel
theorem dX11_choose_293 : decode cX11_choose 293 = .ok (.getfield 79, 3) := by decide +kernel
theorem dX11_choose_296 : decode cX11_choose 296 = .ok (.iconst 0, 1) := by decide +kernel
theorem dX11_choose_297 : decode cX11_choose 297 = .ok (.aload_n 0, 1) := by decide +kernel
theorem dX11_choose_298 : decode cX11_choose 298 = .ok (.getfield 223, 3) := by decide +kernel
theorem dX11_choose_301 : decode cX11_choose 301 = .ok (.iastore, 1) := by decide +kernel
theorem dX11_choose_302 : decode cX11_choose 302 = .ok (.iconst 0, 1) := by decide +kernel
theorem dX11_choose_303 : decode cX11_choose 303 = .ok (.istore 6, 2) := by decide +kernel
theorem dX11_choose_305 : decode cX11_choose 305 = .ok (.iload 6, 2) := by decide +kernel
theorem dX11_choose_307 : decode cX11_choose 307 = .ok (.aload_n 0, 1) := by decide +kernel
theorem dX11_choose_308 : decode cX11_choose 308 = .ok (.getfield 223, 3) := by decide +kernel
theorem dX11_choose_311 : decode cX11_choose 311 = .ok (.if_icmp .ge 75, 3) := by decide +kernel
theorem dX11_choose_314 : decode cX11_choose 314 = .ok (.aload_n 0, 1) := by decide +kernel
theorem dX11_choose_315 : decode cX11_choose 315 = .ok (.iconst 0, 1) := by decide +kernel
theorem dX11_choose_316 : decode cX11_choose 316 = .ok (.aload_n 0, 1) := by decide +kernel
theorem dX11_choose_317 : decode cX11_choose 317 = .ok (.getfield 113, 3) := by decide +kernel
theorem dX11_choose_320 : decode cX11_choose 320 = .ok (.aload_n 0, 1) := by decide +kernel
theorem dX11_choose_321 : decode cX11_choose 321 = .ok (.getfield 119, 3) := by decide +kernel
theorem dX11_choose_324 : decode cX11_choose 324 = .ok (.iload 6, 2) := by decide +kernel
theorem dX11_choose_326 : decode cX11_choose 326 = .ok (.iaload, 1) := by decide +kernel
theorem dX11_choose_327 : decode cX11_choose 327 = .ok (.iaload, 1) := by decide +kernel
theorem dX11_choose_328 : decode cX11_choose 328 = .ok (.invokevirtual 217, 3) := by decide +kernel
theorem dX11_choose_331 : decode cX11_choose 331 = .ok (.iconst 0, 1) := by decide +kernel
theorem dX11_choose_332 : decode cX11_choose 332 = .ok (.istore 7, 2) := by decide +kernel
theorem dX11_choose_334 : decode cX11_choose 334 = .ok (.iload 7, 2) := by decide +kernel
theorem dX11_choose_336 : decode cX11_choose 336 = .ok (.iconst 5, 1) := by decide +kernel
theorem dX11_choose_337 : decode cX11_choose 337 = .ok (.if_icmp .ge 43, 3) := by decide +kernel
theorem dX11_choose_340 : decode cX11_choose 340 = .ok (.aload_n 0, 1) := by decide +kernel
theorem dX11_choose_341 : decode cX11_choose 341 = .ok (.getfield 82, 3) := by decide +kernel
theorem dX11_choose_344 : decode cX11_choose 344 = .ok (.iconst 5, 1) := by decide +kernel
theorem dX11_choose_345 : decode cX11_choose 345 = .ok (.iload 6, 2) := by decide +kernel
theorem dX11_choose_347 : decode cX11_choose 347 = .ok (.imul, 1) := by decide +kernel
theorem dX11_choose_348 : decode cX11_choose 348 = .ok (.iload 7, 2) := by decide +kernel
theorem dX11_choose_350 : decode cX11_choose 350 = .ok (.iadd, 1) := by decide +kernel
theorem dX11_choose_351 : decode cX11_choose 351 = .ok (.iload 7, 2) := by decide +kernel
theorem dX11_choose_353 : decode cX11_choose 353 = .ok (.aload_n 0, 1) := by decide +kernel
theorem dX11_choose_354 : decode cX11_choose 354 = .ok (.getfield 91, 3) := by decide +kernel
theorem dX11_choose_357 : decode cX11_choose 357 = .ok (.iconst 0, 1) := by decide +kernel
theorem dX11_choose_358 : decode cX11_choose 358 = .ok (.iaload, 1) := by decide +kernel
theorem dX11_choose_359 : decode cX11_choose 359 = .ok (.if_icmp .gt 13, 3) := by decide +kernel
theorem dX11_choose_362 : decode cX11_choose 362 = .ok (.aload_n 0, 1) := by decide +kernel
theorem dX11_choose_363 : decode cX11_choose 363 = .ok (.getfield 91, 3) := by decide +kernel
theorem dX11_choose_366 : decode cX11_choose 366 = .ok (.iload 7, 2) := by decide +kernel
theorem dX11_choose_368 : decode cX11_choose 368 = .ok (.iaload, 1) := by decide +kernel
theorem dX11_choose_369 : decode cX11_choose 369 = .ok (.goto 4, 3) := by decide +kernel
theorem dX11_choose_372 : decode cX11_choose 372 = .ok (.iconst 0, 1) := by decide +kernel
theorem dX11_choose_373 : decode cX11_choose 373 = .ok (.iastore, 1) := by decide +kernel
theorem dX11_choose_374 : decode cX11_choose 374 = .ok (.iinc 7 1, 3) := by decide +kernel
theorem dX11_choose_377 : decode cX11_choose 377 = .ok (.goto (-43), 3) := by decide +kernel
theorem dX11_choose_380 : decode cX11_choose 380 = .ok (.iinc 6 1, 3) := by decide +kernel
theorem dX11_choose_383 : decode cX11_choose 383 = .ok (.goto (-78), 3) := by decide +kernel
theorem dX11_choose_386 : decode cX11_choose 386 = .ok (.aload_n 0, 1) := by decide +kernel
theorem dX11_choose_387 : decode cX11_choose 387 = .ok (.getfield 220, 3) := by decide +kernel
theorem dX11_choose_390 : decode cX11_choose 390 = .ok (.ireturn, 1) := by decide +kernel
theorem dX11_chosen_0 : decode cX11_chosen 0 = .ok (.aload_n 0, 1) := by decide +kernel
theorem dX11_chosen_1 : decode cX11_chosen 1 = .ok (.iconst 0, 1) := by decide +kernel
theorem dX11_chosen_2 : decode cX11_chosen 2 = .ok (.putfield 134, 3) := by decide +kernel
theorem dX11_chosen_5 : decode cX11_chosen 5 = .ok (.iload_n 1, 1) := by decide +kernel
theorem dX11_chosen_6 : decode cX11_chosen 6 = .ok (.iconst 0, 1) := by decide +kernel
theorem dX11_chosen_7 : decode cX11_chosen 7 = .ok (.aload_n 0, 1) := by decide +kernel
theorem dX11_chosen_8 : decode cX11_chosen 8 = .ok (.getfield 79, 3) := by decide +kernel
theorem dX11_chosen_11 : decode cX11_chosen 11 = .ok (.iconst 0, 1) := by decide +kernel
theorem dX11_chosen_12 : decode cX11_chosen 12 = .ok (.iaload, 1) := by decide +kernel
theorem dX11_chosen_13 : decode cX11_chosen 13 = .ok (.iconst 1, 1) := by decide +kernel
theorem dX11_chosen_14 : decode cX11_chosen 14 = .ok (.isub, 1) := by decide +kernel
theorem dX11_chosen_15 : decode cX11_chosen 15 = .ok (.invokestatic 142, 3) := by decide +kernel
theorem dX11_chosen_18 : decode cX11_chosen 18 = .ok (.ifCond .eq 36, 3) := by decide +kernel
theorem dX11_chosen_21 : decode cX11_chosen 21 = .ok (.iload_n 2, 1) := by decide +kernel
theorem dX11_chosen_22 : decode cX11_chosen 22 = .ok (.iconst 0, 1) := by decide +kernel
theorem dX11_chosen_23 : decode cX11_chosen 23 = .ok (.aload_n 0, 1) := by decide +kernel
theorem dX11_chosen_24 : decode cX11_chosen 24 = .ok (.getfield 82, 3) := by decide +kernel
theorem dX11_chosen_27 : decode cX11_chosen 27 = .ok (.iconst 5, 1) := by decide +kernel
theorem dX11_chosen_28 : decode cX11_chosen 28 = .ok (.iload_n 1, 1) := by decide +kernel
theorem dX11_chosen_29 : decode cX11_chosen 29 = .ok (.imul, 1) := by decide +kernel
theorem dX11_chosen_30 : decode cX11_chosen 30 = .ok (.iaload, 1) := by decide +kernel
theorem dX11_chosen_31 : decode cX11_chosen 31 = .ok (.iconst 1, 1) := by decide +kernel
theorem dX11_chosen_32 : decode cX11_chosen 32 = .ok (.isub, 1) := by decide +kernel
theorem dX11_chosen_33 : decode cX11_chosen 33 = .ok (.invokestatic 142, 3) := by decide +kernel
theorem dX11_chosen_36 : decode cX11_chosen 36 = .ok (.ifCond .eq 18, 3) := by decide +kernel
theorem dX11_chosen_39 : decode cX11_chosen 39 = .ok (.aload_n 0, 1) := by decide +kernel
theorem dX11_chosen_40 : decode cX11_chosen 40 = .ok (.getfield 82, 3) := by decide +kernel
theorem dX11_chosen_43 : decode cX11_chosen 43 = .ok (.iconst 5, 1) := by decide +kernel
theorem dX11_chosen_44 : decode cX11_chosen 44 = .ok (.iload_n 1, 1) := by decide +kernel
theorem dX11_chosen_45 : decode cX11_chosen 45 = .ok (.imul, 1) := by decide +kernel
theorem dX11_chosen_46 : decode cX11_chosen 46 = .ok (.iconst 1, 1) := by decide +kernel
theorem dX11_chosen_47 : decode cX11_chosen 47 = .ok (.iadd, 1) := by decide +kernel
theorem dX11_chosen_48 : decode cX11_chosen 48 = .ok (.iload_n 2, 1) := by decide +kernel
theorem dX11_chosen_49 : decode cX11_chosen 49 = .ok (.iadd, 1) := by decide +kernel
theorem dX11_chosen_50 : decode cX11_chosen 50 = .ok (.iaload, 1) := by decide +kernel
theorem dX11_chosen_51 : decode cX11_chosen 51 = .ok (.goto 4, 3) := by decide +kernel
theorem dX11_chosen_54 : decode cX11_chosen 54 = .ok (.iconst (-1), 1) := by decide +kernel
theorem dX11_chosen_55 : decode cX11_chosen 55 = .ok (.ireturn, 1) := by decide +kernel
theorem dX11_take_0 : decode cX11_take 0 = .ok (.aload_n 0, 1) := by decide +kernel
theorem dX11_take_1 : decode cX11_take 1 = .ok (.iconst 0, 1) := by decide +kernel
theorem dX11_take_2 : decode cX11_take 2 = .ok (.putfield 134, 3) := by decide +kernel
theorem dX11_take_5 : decode cX11_take 5 = .ok (.aload_n 0, 1) := by decide +kernel
theorem dX11_take_6 : decode cX11_take 6 = .ok (.getfield 79, 3) := by decide +kernel
theorem dX11_take_9 : decode cX11_take 9 = .ok (.iconst 0, 1) := by decide +kernel
theorem dX11_take_10 : decode cX11_take 10 = .ok (.iaload, 1) := by decide +kernel
theorem dX11_take_11 : decode cX11_take 11 = .ok (.iconst (-1), 1) := by decide +kernel
theorem dX11_take_12 : decode cX11_take 12 = .ok (.if_icmp .ne 5, 3) := by decide +kernel
theorem dX11_take_15 : decode cX11_take 15 = .ok (.iconst (-1), 1) := by decide +kernel
theorem dX11_take_16 : decode cX11_take 16 = .ok (.ireturn, 1) := by decide +kernel
theorem dX11_take_17 : decode cX11_take 17 = .ok (.aload_n 0, 1) := by decide +kernel
theorem dX11_take_18 : decode cX11_take 18 = .ok (.getfield 25, 3) := by decide +kernel
theorem dX11_take_21 : decode cX11_take 21 = .ok (.iconst 0, 1) := by decide +kernel
theorem dX11_take_22 : decode cX11_take 22 = .ok (.aload_n 0, 1) := by decide +kernel
theorem dX11_take_23 : decode cX11_take 23 = .ok (.getfield 79, 3) := by decide +kernel
theorem dX11_take_26 : decode cX11_take 26 = .ok (.iconst 0, 1) := by decide +kernel
theorem dX11_take_27 : decode cX11_take 27 = .ok (.iaload, 1) := by decide +kernel
theorem dX11_take_28 : decode cX11_take 28 = .ok (.iastore, 1) := by decide +kernel
theorem dX11_take_29 : decode cX11_take 29 = .ok (.iconst 0, 1) := by decide +kernel
theorem dX11_take_30 : decode cX11_take 30 = .ok (.istore_n 1, 1) := by decide +kernel
theorem dX11_take_31 : decode cX11_take 31 = .ok (.iload_n 1, 1) := by decide +kernel
theorem dX11_take_32 : decode cX11_take 32 = .ok (.iconst 5, 1) := by decide +kernel
theorem dX11_take_33 : decode cX11_take 33 = .ok (.aload_n 0, 1) := by decide +kernel
theorem dX11_take_34 : decode cX11_take 34 = .ok (.getfield 25, 3) := by decide +kernel
theorem dX11_take_37 : decode cX11_take 37 = .ok (.iconst 0, 1) := by decide +kernel
theorem dX11_take_38 : decode cX11_take 38 = .ok (.iaload, 1) := by decide +kernel
theorem dX11_take_39 : decode cX11_take 39 = .ok (.imul, 1) := by decide +kernel
theorem dX11_take_40 : decode cX11_take 40 = .ok (.if_icmp .ge 21, 3) := by decide +kernel
theorem dX11_take_43 : decode cX11_take 43 = .ok (.aload_n 0, 1) := by decide +kernel
theorem dX11_take_44 : decode cX11_take 44 = .ok (.getfield 28, 3) := by decide +kernel
theorem dX11_take_47 : decode cX11_take 47 = .ok (.iload_n 1, 1) := by decide +kernel
theorem dX11_take_48 : decode cX11_take 48 = .ok (.aload_n 0, 1) := by decide +kernel
theorem dX11_take_49 : decode cX11_take 49 = .ok (.getfield 82, 3) := by decide +kernel
theorem dX11_take_52 : decode cX11_take 52 = .ok (.iload_n 1, 1) := by decide +kernel
theorem dX11_take_53 : decode cX11_take 53 = .ok (.iaload, 1) := by decide +kernel
theorem dX11_take_54 : decode cX11_take 54 = .ok (.iastore, 1) := by decide +kernel
theorem dX11_take_55 : decode cX11_take 55 = .ok (.iinc 1 1, 3) := by decide +kernel
theorem dX11_take_58 : decode cX11_take 58 = .ok (.goto (-27), 3) := by decide +kernel
theorem dX11_take_61 : decode cX11_take 61 = .ok (.aload_n 0, 1) := by decide +kernel
theorem dX11_take_62 : decode cX11_take 62 = .ok (.getfield 25, 3) := by decide +kernel
theorem dX11_take_65 : decode cX11_take 65 = .ok (.iconst 0, 1) := by decide +kernel
theorem dX11_take_66 : decode cX11_take 66 = .ok (.iaload, 1) := by decide +kernel
theorem dX11_take_67 : decode cX11_take 67 = .ok (.ireturn, 1) := by decide +kernel
theorem dX11_feed_0 : decode cX11_feed 0 = .ok (.aload_n 0, 1) := by decide +kernel
theorem dX11_feed_1 : decode cX11_feed 1 = .ok (.iconst 0, 1) := by decide +kernel
theorem dX11_feed_2 : decode cX11_feed 2 = .ok (.putfield 134, 3) := by decide +kernel
theorem dX11_feed_5 : decode cX11_feed 5 = .ok (.iload_n 2, 1) := by decide +kernel
theorem dX11_feed_6 : decode cX11_feed 6 = .ok (.iconst 1, 1) := by decide +kernel
theorem dX11_feed_7 : decode cX11_feed 7 = .ok (.iconst 4, 1) := by decide +kernel
theorem dX11_feed_8 : decode cX11_feed 8 = .ok (.invokestatic 142, 3) := by decide +kernel
theorem dX11_feed_11 : decode cX11_feed 11 = .ok (.ifCond .eq 17, 3) := by decide +kernel
theorem dX11_feed_14 : decode cX11_feed 14 = .ok (.aload_n 0, 1) := by decide +kernel
theorem dX11_feed_15 : decode cX11_feed 15 = .ok (.getfield 85, 3) := by decide +kernel
theorem dX11_feed_18 : decode cX11_feed 18 = .ok (.iconst 0, 1) := by decide +kernel
theorem dX11_feed_19 : decode cX11_feed 19 = .ok (.iaload, 1) := by decide +kernel
theorem dX11_feed_20 : decode cX11_feed 20 = .ok (.iload_n 2, 1) := by decide +kernel
theorem dX11_feed_21 : decode cX11_feed 21 = .ok (.iadd, 1) := by decide +kernel
theorem dX11_feed_22 : decode cX11_feed 22 = .ok (.sipush 160, 3) := by decide +kernel
theorem dX11_feed_25 : decode cX11_feed 25 = .ok (.if_icmp .le 5, 3) := by decide +kernel
theorem dX11_feed_28 : decode cX11_feed 28 = .ok (.iconst (-1), 1) := by decide +kernel
theorem dX11_feed_29 : decode cX11_feed 29 = .ok (.ireturn, 1) := by decide +kernel
theorem dX11_feed_30 : decode cX11_feed 30 = .ok (.iconst 0, 1) := by decide +kernel
theorem dX11_feed_31 : decode cX11_feed 31 = .ok (.istore_n 3, 1) := by decide +kernel
theorem dX11_feed_32 : decode cX11_feed 32 = .ok (.iload_n 3, 1) := by decide +kernel
theorem dX11_feed_33 : decode cX11_feed 33 = .ok (.iload_n 2, 1) := by decide +kernel
theorem dX11_feed_34 : decode cX11_feed 34 = .ok (.if_icmp .ge 43, 3) := by decide +kernel
theorem dX11_feed_37 : decode cX11_feed 37 = .ok (.aload_n 0, 1) := by decide +kernel
theorem dX11_feed_38 : decode cX11_feed 38 = .ok (.getfield 88, 3) := by decide +kernel
theorem dX11_feed_41 : decode cX11_feed 41 = .ok (.aload_n 0, 1) := by decide +kernel
theorem dX11_feed_42 : decode cX11_feed 42 = .ok (.getfield 85, 3) := by decide +kernel
theorem dX11_feed_45 : decode cX11_feed 45 = .ok (.iconst 0, 1) := by decide +kernel
theorem dX11_feed_46 : decode cX11_feed 46 = .ok (.iaload, 1) := by decide +kernel
theorem dX11_feed_47 : decode cX11_feed 47 = .ok (.iload_n 1, 1) := by decide +kernel
theorem dX11_feed_48 : decode cX11_feed 48 = .ok (.bipush 24, 2) := by decide +kernel
theorem dX11_feed_50 : decode cX11_feed 50 = .ok (.bipush 8, 2) := by decide +kernel
theorem dX11_feed_52 : decode cX11_feed 52 = .ok (.iload_n 3, 1) := by decide +kernel
theorem dX11_feed_53 : decode cX11_feed 53 = .ok (.imul, 1) := by decide +kernel
theorem dX11_feed_54 : decode cX11_feed 54 = .ok (.isub, 1) := by decide +kernel
theorem dX11_feed_55 : decode cX11_feed 55 = .ok (.ishr, 1) := by decide +kernel
theorem dX11_feed_56 : decode cX11_feed 56 = .ok (.sipush 255, 3) := by decide +kernel
theorem dX11_feed_59 : decode cX11_feed 59 = .ok (.iand, 1) := by decide +kernel
theorem dX11_feed_60 : decode cX11_feed 60 = .ok (.iastore, 1) := by decide +kernel
theorem dX11_feed_61 : decode cX11_feed 61 = .ok (.aload_n 0, 1) := by decide +kernel
theorem dX11_feed_62 : decode cX11_feed 62 = .ok (.getfield 85, 3) := by decide +kernel
theorem dX11_feed_65 : decode cX11_feed 65 = .ok (.iconst 0, 1) := by decide +kernel
theorem dX11_feed_66 : decode cX11_feed 66 = .ok (.dup2, 1) := by decide +kernel
theorem dX11_feed_67 : decode cX11_feed 67 = .ok (.iaload, 1) := by decide +kernel
theorem dX11_feed_68 : decode cX11_feed 68 = .ok (.iconst 1, 1) := by decide +kernel
theorem dX11_feed_69 : decode cX11_feed 69 = .ok (.iadd, 1) := by decide +kernel
theorem dX11_feed_70 : decode cX11_feed 70 = .ok (.iastore, 1) := by decide +kernel
theorem dX11_feed_71 : decode cX11_feed 71 = .ok (.iinc 3 1, 3) := by decide +kernel
theorem dX11_feed_74 : decode cX11_feed 74 = .ok (.goto (-42), 3) := by decide +kernel
theorem dX11_feed_77 : decode cX11_feed 77 = .ok (.aload_n 0, 1) := by decide +kernel
theorem dX11_feed_78 : decode cX11_feed 78 = .ok (.getfield 85, 3) := by decide +kernel
theorem dX11_feed_81 : decode cX11_feed 81 = .ok (.iconst 0, 1) := by decide +kernel
theorem dX11_feed_82 : decode cX11_feed 82 = .ok (.iaload, 1) := by decide +kernel
theorem dX11_feed_83 : decode cX11_feed 83 = .ok (.ireturn, 1) := by decide +kernel
theorem dX11_readOrder_0 : decode cX11_readOrder 0 = .ok (.aload_n 0, 1) := by decide +kernel
theorem dX11_readOrder_1 : decode cX11_readOrder 1 = .ok (.getfield 232, 3) := by decide +kernel
theorem dX11_readOrder_4 : decode cX11_readOrder 4 = .ok (.bipush 40, 2) := by decide +kernel
theorem dX11_readOrder_6 : decode cX11_readOrder 6 = .ok (.if_icmp .ne 5, 3) := by decide +kernel
theorem dX11_readOrder_9 : decode cX11_readOrder 9 = .ok (.iconst 0, 1) := by decide +kernel
theorem dX11_readOrder_10 : decode cX11_readOrder 10 = .ok (.ireturn, 1) := by decide +kernel
theorem dX11_readOrder_11 : decode cX11_readOrder 11 = .ok (.iconst 0, 1) := by decide +kernel
theorem dX11_readOrder_12 : decode cX11_readOrder 12 = .ok (.istore_n 2, 1) := by decide +kernel
theorem dX11_readOrder_13 : decode cX11_readOrder 13 = .ok (.iload_n 1, 1) := by decide +kernel
theorem dX11_readOrder_14 : decode cX11_readOrder 14 = .ok (.invokestatic 158, 3) := by decide +kernel
theorem dX11_readOrder_17 : decode cX11_readOrder 17 = .ok (.ifCond .eq 55, 3) := by decide +kernel
theorem dX11_readOrder_20 : decode cX11_readOrder 20 = .ok (.aload_n 0, 1) := by decide +kernel
theorem dX11_readOrder_21 : decode cX11_readOrder 21 = .ok (.getfield 235, 3) := by decide +kernel
theorem dX11_readOrder_24 : decode cX11_readOrder 24 = .ok (.aload_n 0, 1) := by decide +kernel
theorem dX11_readOrder_25 : decode cX11_readOrder 25 = .ok (.getfield 85, 3) := by decide +kernel
theorem dX11_readOrder_28 : decode cX11_readOrder 28 = .ok (.iconst 0, 1) := by decide +kernel
theorem dX11_readOrder_29 : decode cX11_readOrder 29 = .ok (.iaload, 1) := by decide +kernel
theorem dX11_readOrder_30 : decode cX11_readOrder 30 = .ok (.if_icmp .ne 5, 3) := by decide +kernel
theorem dX11_readOrder_33 : decode cX11_readOrder 33 = .ok (.iconst 0, 1) := by decide +kernel
theorem dX11_readOrder_34 : decode cX11_readOrder 34 = .ok (.ireturn, 1) := by decide +kernel
theorem dX11_readOrder_35 : decode cX11_readOrder 35 = .ok (.iload_n 1, 1) := by decide +kernel
theorem dX11_readOrder_36 : decode cX11_readOrder 36 = .ok (.ifCond .ne 16, 3) := by decide +kernel
theorem dX11_readOrder_39 : decode cX11_readOrder 39 = .ok (.aload_n 0, 1) := by decide +kernel
theorem dX11_readOrder_40 : decode cX11_readOrder 40 = .ok (.getfield 88, 3) := by decide +kernel
theorem dX11_readOrder_43 : decode cX11_readOrder 43 = .ok (.aload_n 0, 1) := by decide +kernel
theorem dX11_readOrder_44 : decode cX11_readOrder 44 = .ok (.getfield 235, 3) := by decide +kernel
theorem dX11_readOrder_47 : decode cX11_readOrder 47 = .ok (.iaload, 1) := by decide +kernel
theorem dX11_readOrder_48 : decode cX11_readOrder 48 = .ok (.i2b, 1) := by decide +kernel
theorem dX11_readOrder_49 : decode cX11_readOrder 49 = .ok (.goto 12, 3) := by decide +kernel
theorem dX11_readOrder_52 : decode cX11_readOrder 52 = .ok (.aload_n 0, 1) := by decide +kernel
theorem dX11_readOrder_53 : decode cX11_readOrder 53 = .ok (.getfield 88, 3) := by decide +kernel
theorem dX11_readOrder_56 : decode cX11_readOrder 56 = .ok (.aload_n 0, 1) := by decide +kernel
theorem dX11_readOrder_57 : decode cX11_readOrder 57 = .ok (.getfield 235, 3) := by decide +kernel
theorem dX11_readOrder_60 : decode cX11_readOrder 60 = .ok (.iaload, 1) := by decide +kernel
theorem dX11_readOrder_61 : decode cX11_readOrder 61 = .ok (.istore_n 2, 1) := by decide +kernel
theorem dX11_readOrder_62 : decode cX11_readOrder 62 = .ok (.aload_n 0, 1) := by decide +kernel
theorem dX11_readOrder_63 : decode cX11_readOrder 63 = .ok (.dup, 1) := by decide +kernel
theorem dX11_readOrder_64 : decode cX11_readOrder 64 = .ok (.getfield 235, 3) := by decide +kernel
theorem dX11_readOrder_67 : decode cX11_readOrder 67 = .ok (.iconst 1, 1) := by decide +kernel
theorem dX11_readOrder_68 : decode cX11_readOrder 68 = .ok (.iadd, 1) := by decide +kernel
theorem dX11_readOrder_69 : decode cX11_readOrder 69 = .ok (.putfield 235, 3) := by decide +kernel
theorem dX11_readOrder_72 : decode cX11_readOrder 72 = .ok (.iload_n 1, 1) := by decide +kernel
theorem dX11_readOrder_73 : decode cX11_readOrder 73 = .ok (.iload_n 2, 1) := by decide +kernel
theorem dX11_readOrder_74 : decode cX11_readOrder 74 = .ok (.invokestatic 154, 3) := by decide +kernel
theorem dX11_readOrder_77 : decode cX11_readOrder 77 = .ok (.ifCond .ne 5, 3) := by decide +kernel
theorem dX11_readOrder_80 : decode cX11_readOrder 80 = .ok (.iconst 0, 1) := by decide +kernel
theorem dX11_readOrder_81 : decode cX11_readOrder 81 = .ok (.ireturn, 1) := by decide +kernel
theorem dX11_readOrder_82 : decode cX11_readOrder 82 = .ok (.aload_n 0, 1) := by decide +kernel
theorem dX11_readOrder_83 : decode cX11_readOrder 83 = .ok (.getfield 125, 3) := by decide +kernel
theorem dX11_readOrder_86 : decode cX11_readOrder 86 = .ok (.aload_n 0, 1) := by decide +kernel
theorem dX11_readOrder_87 : decode cX11_readOrder 87 = .ok (.getfield 232, 3) := by decide +kernel
theorem dX11_readOrder_90 : decode cX11_readOrder 90 = .ok (.iload_n 1, 1) := by decide +kernel
theorem dX11_readOrder_91 : decode cX11_readOrder 91 = .ok (.iastore, 1) := by decide +kernel
theorem dX11_readOrder_92 : decode cX11_readOrder 92 = .ok (.aload_n 0, 1) := by decide +kernel
theorem dX11_readOrder_93 : decode cX11_readOrder 93 = .ok (.getfield 128, 3) := by decide +kernel
theorem dX11_readOrder_96 : decode cX11_readOrder 96 = .ok (.aload_n 0, 1) := by decide +kernel
theorem dX11_readOrder_97 : decode cX11_readOrder 97 = .ok (.getfield 232, 3) := by decide +kernel
theorem dX11_readOrder_100 : decode cX11_readOrder 100 = .ok (.iload_n 2, 1) := by decide +kernel
theorem dX11_readOrder_101 : decode cX11_readOrder 101 = .ok (.iastore, 1) := by decide +kernel
theorem dX11_readOrder_102 : decode cX11_readOrder 102 = .ok (.aload_n 0, 1) := by decide +kernel
theorem dX11_readOrder_103 : decode cX11_readOrder 103 = .ok (.dup, 1) := by decide +kernel
theorem dX11_readOrder_104 : decode cX11_readOrder 104 = .ok (.getfield 232, 3) := by decide +kernel
theorem dX11_readOrder_107 : decode cX11_readOrder 107 = .ok (.iconst 1, 1) := by decide +kernel
theorem dX11_readOrder_108 : decode cX11_readOrder 108 = .ok (.iadd, 1) := by decide +kernel
theorem dX11_readOrder_109 : decode cX11_readOrder 109 = .ok (.putfield 232, 3) := by decide +kernel
theorem dX11_readOrder_112 : decode cX11_readOrder 112 = .ok (.iconst 1, 1) := by decide +kernel
theorem dX11_readOrder_113 : decode cX11_readOrder 113 = .ok (.ireturn, 1) := by decide +kernel
theorem dX11_readAll_0 : decode cX11_readAll 0 = .ok (.aload_n 0, 1) := by decide +kernel
theorem dX11_readAll_1 : decode cX11_readAll 1 = .ok (.iconst 0, 1) := by decide +kernel
theorem dX11_readAll_2 : decode cX11_readAll 2 = .ok (.putfield 232, 3) := by decide +kernel
theorem dX11_readAll_5 : decode cX11_readAll 5 = .ok (.aload_n 0, 1) := by decide +kernel
theorem dX11_readAll_6 : decode cX11_readAll 6 = .ok (.iconst 0, 1) := by decide +kernel
theorem dX11_readAll_7 : decode cX11_readAll 7 = .ok (.putfield 235, 3) := by decide +kernel
theorem dX11_readAll_10 : decode cX11_readAll 10 = .ok (.aload_n 0, 1) := by decide +kernel
theorem dX11_readAll_11 : decode cX11_readAll 11 = .ok (.getfield 235, 3) := by decide +kernel
theorem dX11_readAll_14 : decode cX11_readAll 14 = .ok (.aload_n 0, 1) := by decide +kernel
theorem dX11_readAll_15 : decode cX11_readAll 15 = .ok (.getfield 85, 3) := by decide +kernel
theorem dX11_readAll_18 : decode cX11_readAll 18 = .ok (.iconst 0, 1) := by decide +kernel
theorem dX11_readAll_19 : decode cX11_readAll 19 = .ok (.iaload, 1) := by decide +kernel
theorem dX11_readAll_20 : decode cX11_readAll 20 = .ok (.if_icmp .ge 105, 3) := by decide +kernel
theorem dX11_readAll_23 : decode cX11_readAll 23 = .ok (.aload_n 0, 1) := by decide +kernel
theorem dX11_readAll_24 : decode cX11_readAll 24 = .ok (.getfield 88, 3) := by decide +kernel
theorem dX11_readAll_27 : decode cX11_readAll 27 = .ok (.aload_n 0, 1) := by decide +kernel
theorem dX11_readAll_28 : decode cX11_readAll 28 = .ok (.getfield 235, 3) := by decide +kernel
theorem dX11_readAll_31 : decode cX11_readAll 31 = .ok (.iaload, 1) := by decide +kernel
theorem dX11_readAll_32 : decode cX11_readAll 32 = .ok (.istore_n 1, 1) := by decide +kernel
theorem dX11_readAll_33 : decode cX11_readAll 33 = .ok (.aload_n 0, 1) := by decide +kernel
theorem dX11_readAll_34 : decode cX11_readAll 34 = .ok (.dup, 1) := by decide +kernel
theorem dX11_readAll_35 : decode cX11_readAll 35 = .ok (.getfield 235, 3) := by decide +kernel
theorem dX11_readAll_38 : decode cX11_readAll 38 = .ok (.iconst 1, 1) := by decide +kernel
theorem dX11_readAll_39 : decode cX11_readAll 39 = .ok (.iadd, 1) := by decide +kernel
theorem dX11_readAll_40 : decode cX11_readAll 40 = .ok (.putfield 235, 3) := by decide +kernel
theorem dX11_readAll_43 : decode cX11_readAll 43 = .ok (.iload_n 1, 1) := by decide +kernel
theorem dX11_readAll_44 : decode cX11_readAll 44 = .ok (.bipush 16, 2) := by decide +kernel
theorem dX11_readAll_46 : decode cX11_readAll 46 = .ok (.isub, 1) := by decide +kernel
theorem dX11_readAll_47 : decode cX11_readAll 47 = .ok (.istore_n 2, 1) := by decide +kernel
theorem dX11_readAll_48 : decode cX11_readAll 48 = .ok (.iload_n 2, 1) := by decide +kernel
theorem dX11_readAll_49 : decode cX11_readAll 49 = .ok (.aload_n 0, 1) := by decide +kernel
theorem dX11_readAll_50 : decode cX11_readAll 50 = .ok (.getfield 25, 3) := by decide +kernel
theorem dX11_readAll_53 : decode cX11_readAll 53 = .ok (.iconst 0, 1) := by decide +kernel
theorem dX11_readAll_54 : decode cX11_readAll 54 = .ok (.iaload, 1) := by decide +kernel
theorem dX11_readAll_55 : decode cX11_readAll 55 = .ok (.if_icmp .lt 5, 3) := by decide +kernel
theorem dX11_readAll_58 : decode cX11_readAll 58 = .ok (.iconst 0, 1) := by decide +kernel
theorem dX11_readAll_59 : decode cX11_readAll 59 = .ok (.ireturn, 1) := by decide +kernel
theorem dX11_readAll_60 : decode cX11_readAll 60 = .ok (.iload_n 2, 1) := by decide +kernel
theorem dX11_readAll_61 : decode cX11_readAll 61 = .ok (.ifCond .ge 7, 3) := by decide +kernel
theorem dX11_readAll_64 : decode cX11_readAll 64 = .ok (.iconst 1, 1) := by decide +kernel
theorem dX11_readAll_65 : decode cX11_readAll 65 = .ok (.goto 11, 3) := by decide +kernel
theorem dX11_readAll_68 : decode cX11_readAll 68 = .ok (.aload_n 0, 1) := by decide +kernel
theorem dX11_readAll_69 : decode cX11_readAll 69 = .ok (.getfield 28, 3) := by decide +kernel
theorem dX11_readAll_72 : decode cX11_readAll 72 = .ok (.iconst 5, 1) := by decide +kernel
theorem dX11_readAll_73 : decode cX11_readAll 73 = .ok (.iload_n 2, 1) := by decide +kernel
theorem dX11_readAll_74 : decode cX11_readAll 74 = .ok (.imul, 1) := by decide +kernel
theorem dX11_readAll_75 : decode cX11_readAll 75 = .ok (.iaload, 1) := by decide +kernel
theorem dX11_readAll_76 : decode cX11_readAll 76 = .ok (.istore_n 3, 1) := by decide +kernel
theorem dX11_readAll_77 : decode cX11_readAll 77 = .ok (.iconst 0, 1) := by decide +kernel
theorem dX11_readAll_78 : decode cX11_readAll 78 = .ok (.istore 4, 2) := by decide +kernel
theorem dX11_readAll_80 : decode cX11_readAll 80 = .ok (.iload 4, 2) := by decide +kernel
theorem dX11_readAll_82 : decode cX11_readAll 82 = .ok (.iload_n 3, 1) := by decide +kernel
theorem dX11_readAll_83 : decode cX11_readAll 83 = .ok (.if_icmp .ge 39, 3) := by decide +kernel
theorem dX11_readAll_86 : decode cX11_readAll 86 = .ok (.aload_n 0, 1) := by decide +kernel
theorem dX11_readAll_87 : decode cX11_readAll 87 = .ok (.iload_n 2, 1) := by decide +kernel
theorem dX11_readAll_88 : decode cX11_readAll 88 = .ok (.ifCond .ge 7, 3) := by decide +kernel
theorem dX11_readAll_91 : decode cX11_readAll 91 = .ok (.iload_n 1, 1) := by decide +kernel
theorem dX11_readAll_92 : decode cX11_readAll 92 = .ok (.goto 16, 3) := by decide +kernel
theorem dX11_readAll_95 : decode cX11_readAll 95 = .ok (.aload_n 0, 1) := by decide +kernel
theorem dX11_readAll_96 : decode cX11_readAll 96 = .ok (.getfield 28, 3) := by decide +kernel
theorem dX11_readAll_99 : decode cX11_readAll 99 = .ok (.iconst 5, 1) := by decide +kernel
theorem dX11_readAll_100 : decode cX11_readAll 100 = .ok (.iload_n 2, 1) := by decide +kernel
theorem dX11_readAll_101 : decode cX11_readAll 101 = .ok (.imul, 1) := by decide +kernel
theorem dX11_readAll_102 : decode cX11_readAll 102 = .ok (.iconst 1, 1) := by decide +kernel
theorem dX11_readAll_103 : decode cX11_readAll 103 = .ok (.iadd, 1) := by decide +kernel
theorem dX11_readAll_104 : decode cX11_readAll 104 = .ok (.iload 4, 2) := by decide +kernel
theorem dX11_readAll_106 : decode cX11_readAll 106 = .ok (.iadd, 1) := by decide +kernel
theorem dX11_readAll_107 : decode cX11_readAll 107 = .ok (.iaload, 1) := by decide +kernel
theorem dX11_readAll_108 : decode cX11_readAll 108 = .ok (.invokevirtual 238, 3) := by decide +kernel
theorem dX11_readAll_111 : decode cX11_readAll 111 = .ok (.ifCond .ne 5, 3) := by decide +kernel
theorem dX11_readAll_114 : decode cX11_readAll 114 = .ok (.iconst 0, 1) := by decide +kernel
theorem dX11_readAll_115 : decode cX11_readAll 115 = .ok (.ireturn, 1) := by decide +kernel
theorem dX11_readAll_116 : decode cX11_readAll 116 = .ok (.iinc 4 1, 3) := by decide +kernel
theorem dX11_readAll_119 : decode cX11_readAll 119 = .ok (.goto (-39), 3) := by decide +kernel
theorem dX11_readAll_122 : decode cX11_readAll 122 = .ok (.goto (-112), 3) := by decide +kernel
theorem dX11_readAll_125 : decode cX11_readAll 125 = .ok (.iconst 1, 1) := by decide +kernel
theorem dX11_readAll_126 : decode cX11_readAll 126 = .ok (.ireturn, 1) := by decide +kernel
theorem dX11_read_0 : decode cX11_read 0 = .ok (.aload_n 0, 1) := by decide +kernel
theorem dX11_read_1 : decode cX11_read 1 = .ok (.iconst 0, 1) := by decide +kernel
theorem dX11_read_2 : decode cX11_read 2 = .ok (.putfield 134, 3) := by decide +kernel
theorem dX11_read_5 : decode cX11_read 5 = .ok (.aload_n 0, 1) := by decide +kernel
theorem dX11_read_6 : decode cX11_read 6 = .ok (.getfield 7, 3) := by decide +kernel
theorem dX11_read_9 : decode cX11_read 9 = .ok (.iconst 0, 1) := by decide +kernel
theorem dX11_read_10 : decode cX11_read 10 = .ok (.iaload, 1) := by decide +kernel
theorem dX11_read_11 : decode cX11_read 11 = .ok (.iconst 3, 1) := by decide +kernel
theorem dX11_read_12 : decode cX11_read 12 = .ok (.if_icmp .eq 10, 3) := by decide +kernel
theorem dX11_read_15 : decode cX11_read 15 = .ok (.aload_n 0, 1) := by decide +kernel
theorem dX11_read_16 : decode cX11_read 16 = .ok (.invokevirtual 241, 3) := by decide +kernel
theorem dX11_read_19 : decode cX11_read 19 = .ok (.ifCond .ne 5, 3) := by decide +kernel
theorem dX11_read_22 : decode cX11_read 22 = .ok (.iconst (-1), 1) := by decide +kernel
theorem dX11_read_23 : decode cX11_read 23 = .ok (.ireturn, 1) := by decide +kernel
theorem dX11_read_24 : decode cX11_read 24 = .ok (.aload_n 0, 1) := by decide +kernel
theorem dX11_read_25 : decode cX11_read 25 = .ok (.getfield 7, 3) := by decide +kernel
theorem dX11_read_28 : decode cX11_read 28 = .ok (.iconst 0, 1) := by decide +kernel
theorem dX11_read_29 : decode cX11_read 29 = .ok (.iaload, 1) := by decide +kernel
theorem dX11_read_30 : decode cX11_read 30 = .ok (.istore_n 1, 1) := by decide +kernel
theorem dX11_read_31 : decode cX11_read 31 = .ok (.aload_n 0, 1) := by decide +kernel
theorem dX11_read_32 : decode cX11_read 32 = .ok (.getfield 7, 3) := by decide +kernel
theorem dX11_read_35 : decode cX11_read 35 = .ok (.iconst 0, 1) := by decide +kernel
theorem dX11_read_36 : decode cX11_read 36 = .ok (.dup2, 1) := by decide +kernel
theorem dX11_read_37 : decode cX11_read 37 = .ok (.iaload, 1) := by decide +kernel
theorem dX11_read_38 : decode cX11_read 38 = .ok (.iconst 1, 1) := by decide +kernel
theorem dX11_read_39 : decode cX11_read 39 = .ok (.iadd, 1) := by decide +kernel
theorem dX11_read_40 : decode cX11_read 40 = .ok (.iastore, 1) := by decide +kernel
theorem dX11_read_41 : decode cX11_read 41 = .ok (.aload_n 0, 1) := by decide +kernel
theorem dX11_read_42 : decode cX11_read 42 = .ok (.getfield 13, 3) := by decide +kernel
theorem dX11_read_45 : decode cX11_read 45 = .ok (.iload_n 1, 1) := by decide +kernel
theorem dX11_read_46 : decode cX11_read 46 = .ok (.aload_n 0, 1) := by decide +kernel
theorem dX11_read_47 : decode cX11_read 47 = .ok (.getfield 232, 3) := by decide +kernel
theorem dX11_read_50 : decode cX11_read 50 = .ok (.iastore, 1) := by decide +kernel
theorem dX11_read_51 : decode cX11_read 51 = .ok (.aload_n 0, 1) := by decide +kernel
theorem dX11_read_52 : decode cX11_read 52 = .ok (.iload_n 1, 1) := by decide +kernel
theorem dX11_read_53 : decode cX11_read 53 = .ok (.invokevirtual 146, 3) := by decide +kernel
theorem dX11_read_56 : decode cX11_read 56 = .ok (.iconst 0, 1) := by decide +kernel
theorem dX11_read_57 : decode cX11_read 57 = .ok (.istore_n 2, 1) := by decide +kernel
theorem dX11_read_58 : decode cX11_read 58 = .ok (.iload_n 2, 1) := by decide +kernel
theorem dX11_read_59 : decode cX11_read 59 = .ok (.aload_n 0, 1) := by decide +kernel
theorem dX11_read_60 : decode cX11_read 60 = .ok (.getfield 232, 3) := by decide +kernel
theorem dX11_read_63 : decode cX11_read 63 = .ok (.if_icmp .ge 43, 3) := by decide +kernel
theorem dX11_read_66 : decode cX11_read 66 = .ok (.aload_n 0, 1) := by decide +kernel
theorem dX11_read_67 : decode cX11_read 67 = .ok (.getfield 16, 3) := by decide +kernel
theorem dX11_read_70 : decode cX11_read 70 = .ok (.bipush 40, 2) := by decide +kernel
theorem dX11_read_72 : decode cX11_read 72 = .ok (.iload_n 1, 1) := by decide +kernel
theorem dX11_read_73 : decode cX11_read 73 = .ok (.imul, 1) := by decide +kernel
theorem dX11_read_74 : decode cX11_read 74 = .ok (.iload_n 2, 1) := by decide +kernel
theorem dX11_read_75 : decode cX11_read 75 = .ok (.iadd, 1) := by decide +kernel
theorem dX11_read_76 : decode cX11_read 76 = .ok (.aload_n 0, 1) := by decide +kernel
theorem dX11_read_77 : decode cX11_read 77 = .ok (.getfield 125, 3) := by decide +kernel
theorem dX11_read_80 : decode cX11_read 80 = .ok (.iload_n 2, 1) := by decide +kernel
theorem dX11_read_81 : decode cX11_read 81 = .ok (.iaload, 1) := by decide +kernel
theorem dX11_read_82 : decode cX11_read 82 = .ok (.iastore, 1) := by decide +kernel
theorem dX11_read_83 : decode cX11_read 83 = .ok (.aload_n 0, 1) := by decide +kernel
theorem dX11_read_84 : decode cX11_read 84 = .ok (.getfield 19, 3) := by decide +kernel
theorem dX11_read_87 : decode cX11_read 87 = .ok (.bipush 40, 2) := by decide +kernel
theorem dX11_read_89 : decode cX11_read 89 = .ok (.iload_n 1, 1) := by decide +kernel
theorem dX11_read_90 : decode cX11_read 90 = .ok (.imul, 1) := by decide +kernel
theorem dX11_read_91 : decode cX11_read 91 = .ok (.iload_n 2, 1) := by decide +kernel
theorem dX11_read_92 : decode cX11_read 92 = .ok (.iadd, 1) := by decide +kernel
theorem dX11_read_93 : decode cX11_read 93 = .ok (.aload_n 0, 1) := by decide +kernel
theorem dX11_read_94 : decode cX11_read 94 = .ok (.getfield 128, 3) := by decide +kernel
theorem dX11_read_97 : decode cX11_read 97 = .ok (.iload_n 2, 1) := by decide +kernel
theorem dX11_read_98 : decode cX11_read 98 = .ok (.iaload, 1) := by decide +kernel
theorem dX11_read_99 : decode cX11_read 99 = .ok (.iastore, 1) := by decide +kernel
theorem dX11_read_100 : decode cX11_read 100 = .ok (.iinc 2 1, 3) := by decide +kernel
theorem dX11_read_103 : decode cX11_read 103 = .ok (.goto (-45), 3) := by decide +kernel
theorem dX11_read_106 : decode cX11_read 106 = .ok (.aload_n 0, 1) := by decide +kernel
theorem dX11_read_107 : decode cX11_read 107 = .ok (.getfield 85, 3) := by decide +kernel
theorem dX11_read_110 : decode cX11_read 110 = .ok (.iconst 0, 1) := by decide +kernel
theorem dX11_read_111 : decode cX11_read 111 = .ok (.iconst 0, 1) := by decide +kernel
theorem dX11_read_112 : decode cX11_read 112 = .ok (.iastore, 1) := by decide +kernel
theorem dX11_read_113 : decode cX11_read 113 = .ok (.iload_n 1, 1) := by decide +kernel
theorem dX11_read_114 : decode cX11_read 114 = .ok (.ireturn, 1) := by decide +kernel
theorem dX11_count_0 : decode cX11_count 0 = .ok (.aload_n 0, 1) := by decide +kernel
theorem dX11_count_1 : decode cX11_count 1 = .ok (.iconst 0, 1) := by decide +kernel
theorem dX11_count_2 : decode cX11_count 2 = .ok (.putfield 134, 3) := by decide +kernel
theorem dX11_count_5 : decode cX11_count 5 = .ok (.iload_n 1, 1) := by decide +kernel
theorem dX11_count_6 : decode cX11_count 6 = .ok (.tableswitch 108 0 5 #[38, 45, 52, 59, 80, 101], 38) := by decide +kernel
theorem dX11_count_44 : decode cX11_count 44 = .ok (.aload_n 0, 1) := by decide +kernel
theorem dX11_count_45 : decode cX11_count 45 = .ok (.getfield 7, 3) := by decide +kernel
theorem dX11_count_48 : decode cX11_count 48 = .ok (.iconst 0, 1) := by decide +kernel
theorem dX11_count_49 : decode cX11_count 49 = .ok (.iaload, 1) := by decide +kernel
theorem dX11_count_50 : decode cX11_count 50 = .ok (.ireturn, 1) := by decide +kernel
theorem dX11_count_51 : decode cX11_count 51 = .ok (.aload_n 0, 1) := by decide +kernel
theorem dX11_count_52 : decode cX11_count 52 = .ok (.getfield 25, 3) := by decide +kernel
theorem dX11_count_55 : decode cX11_count 55 = .ok (.iconst 0, 1) := by decide +kernel
theorem dX11_count_56 : decode cX11_count 56 = .ok (.iaload, 1) := by decide +kernel
theorem dX11_count_57 : decode cX11_count 57 = .ok (.ireturn, 1) := by decide +kernel
theorem dX11_count_58 : decode cX11_count 58 = .ok (.aload_n 0, 1) := by decide +kernel
theorem dX11_count_59 : decode cX11_count 59 = .ok (.getfield 40, 3) := by decide +kernel
theorem dX11_count_62 : decode cX11_count 62 = .ok (.iconst 0, 1) := by decide +kernel
theorem dX11_count_63 : decode cX11_count 63 = .ok (.iaload, 1) := by decide +kernel
theorem dX11_count_64 : decode cX11_count 64 = .ok (.ireturn, 1) := by decide +kernel
theorem dX11_count_65 : decode cX11_count 65 = .ok (.aload_n 0, 1) := by decide +kernel
theorem dX11_count_66 : decode cX11_count 66 = .ok (.getfield 40, 3) := by decide +kernel
theorem dX11_count_69 : decode cX11_count 69 = .ok (.iconst 0, 1) := by decide +kernel
theorem dX11_count_70 : decode cX11_count 70 = .ok (.iaload, 1) := by decide +kernel
theorem dX11_count_71 : decode cX11_count 71 = .ok (.iconst (-1), 1) := by decide +kernel
theorem dX11_count_72 : decode cX11_count 72 = .ok (.if_icmp .ne 7, 3) := by decide +kernel
theorem dX11_count_75 : decode cX11_count 75 = .ok (.iconst (-1), 1) := by decide +kernel
theorem dX11_count_76 : decode cX11_count 76 = .ok (.goto 9, 3) := by decide +kernel
theorem dX11_count_79 : decode cX11_count 79 = .ok (.aload_n 0, 1) := by decide +kernel
theorem dX11_count_80 : decode cX11_count 80 = .ok (.getfield 46, 3) := by decide +kernel
theorem dX11_count_83 : decode cX11_count 83 = .ok (.iconst 0, 1) := by decide +kernel
theorem dX11_count_84 : decode cX11_count 84 = .ok (.iaload, 1) := by decide +kernel
theorem dX11_count_85 : decode cX11_count 85 = .ok (.ireturn, 1) := by decide +kernel
theorem dX11_count_86 : decode cX11_count 86 = .ok (.aload_n 0, 1) := by decide +kernel
theorem dX11_count_87 : decode cX11_count 87 = .ok (.getfield 79, 3) := by decide +kernel
theorem dX11_count_90 : decode cX11_count 90 = .ok (.iconst 0, 1) := by decide +kernel
theorem dX11_count_91 : decode cX11_count 91 = .ok (.iaload, 1) := by decide +kernel
theorem dX11_count_92 : decode cX11_count 92 = .ok (.iconst (-1), 1) := by decide +kernel
theorem dX11_count_93 : decode cX11_count 93 = .ok (.if_icmp .ne 7, 3) := by decide +kernel
theorem dX11_count_96 : decode cX11_count 96 = .ok (.iconst 0, 1) := by decide +kernel
theorem dX11_count_97 : decode cX11_count 97 = .ok (.goto 9, 3) := by decide +kernel
theorem dX11_count_100 : decode cX11_count 100 = .ok (.aload_n 0, 1) := by decide +kernel
theorem dX11_count_101 : decode cX11_count 101 = .ok (.getfield 79, 3) := by decide +kernel
theorem dX11_count_104 : decode cX11_count 104 = .ok (.iconst 0, 1) := by decide +kernel
theorem dX11_count_105 : decode cX11_count 105 = .ok (.iaload, 1) := by decide +kernel
theorem dX11_count_106 : decode cX11_count 106 = .ok (.ireturn, 1) := by decide +kernel
theorem dX11_count_107 : decode cX11_count 107 = .ok (.aload_n 0, 1) := by decide +kernel
theorem dX11_count_108 : decode cX11_count 108 = .ok (.getfield 85, 3) := by decide +kernel
theorem dX11_count_111 : decode cX11_count 111 = .ok (.iconst 0, 1) := by decide +kernel
theorem dX11_count_112 : decode cX11_count 112 = .ok (.iaload, 1) := by decide +kernel
theorem dX11_count_113 : decode cX11_count 113 = .ok (.ireturn, 1) := by decide +kernel
theorem dX11_count_114 : decode cX11_count 114 = .ok (.iload_n 1, 1) := by decide +kernel
theorem dX11_count_115 : decode cX11_count 115 = .ok (.bipush 10, 2) := by decide +kernel
theorem dX11_count_117 : decode cX11_count 117 = .ok (.bipush 9, 2) := by decide +kernel
theorem dX11_count_119 : decode cX11_count 119 = .ok (.aload_n 0, 1) := by decide +kernel
theorem dX11_count_120 : decode cX11_count 120 = .ok (.getfield 7, 3) := by decide +kernel
theorem dX11_count_123 : decode cX11_count 123 = .ok (.iconst 0, 1) := by decide +kernel
theorem dX11_count_124 : decode cX11_count 124 = .ok (.iaload, 1) := by decide +kernel
theorem dX11_count_125 : decode cX11_count 125 = .ok (.iadd, 1) := by decide +kernel
theorem dX11_count_126 : decode cX11_count 126 = .ok (.invokestatic 142, 3) := by decide +kernel
theorem dX11_count_129 : decode cX11_count 129 = .ok (.ifCond .eq 15, 3) := by decide +kernel
theorem dX11_count_132 : decode cX11_count 132 = .ok (.aload_n 0, 1) := by decide +kernel
theorem dX11_count_133 : decode cX11_count 133 = .ok (.getfield 13, 3) := by decide +kernel
theorem dX11_count_136 : decode cX11_count 136 = .ok (.iload_n 1, 1) := by decide +kernel
theorem dX11_count_137 : decode cX11_count 137 = .ok (.bipush 10, 2) := by decide +kernel
theorem dX11_count_139 : decode cX11_count 139 = .ok (.isub, 1) := by decide +kernel
theorem dX11_count_140 : decode cX11_count 140 = .ok (.iaload, 1) := by decide +kernel
theorem dX11_count_141 : decode cX11_count 141 = .ok (.goto 4, 3) := by decide +kernel
theorem dX11_count_144 : decode cX11_count 144 = .ok (.iconst (-1), 1) := by decide +kernel
theorem dX11_count_145 : decode cX11_count 145 = .ok (.ireturn, 1) := by decide +kernel
theorem dX11_image_0 : decode cX11_image 0 = .ok (.aload_n 0, 1) := by decide +kernel
theorem dX11_image_1 : decode cX11_image 1 = .ok (.iconst 0, 1) := by decide +kernel
theorem dX11_image_2 : decode cX11_image 2 = .ok (.putfield 134, 3) := by decide +kernel
theorem dX11_image_5 : decode cX11_image 5 = .ok (.iload_n 1, 1) := by decide +kernel
theorem dX11_image_6 : decode cX11_image 6 = .ok (.iconst 0, 1) := by decide +kernel
theorem dX11_image_7 : decode cX11_image 7 = .ok (.iconst 2, 1) := by decide +kernel
theorem dX11_image_8 : decode cX11_image 8 = .ok (.invokestatic 142, 3) := by decide +kernel
theorem dX11_image_11 : decode cX11_image 11 = .ok (.ifCond .ne 5, 3) := by decide +kernel
theorem dX11_image_14 : decode cX11_image 14 = .ok (.iconst 0, 1) := by decide +kernel
theorem dX11_image_15 : decode cX11_image 15 = .ok (.ireturn, 1) := by decide +kernel
theorem dX11_image_16 : decode cX11_image 16 = .ok (.aload_n 0, 1) := by decide +kernel
theorem dX11_image_17 : decode cX11_image 17 = .ok (.iconst 0, 1) := by decide +kernel
theorem dX11_image_18 : decode cX11_image 18 = .ok (.iload_n 1, 1) := by decide +kernel
theorem dX11_image_19 : decode cX11_image 19 = .ok (.iconst 1, 1) := by decide +kernel
theorem dX11_image_20 : decode cX11_image 20 = .ok (.iadd, 1) := by decide +kernel
theorem dX11_image_21 : decode cX11_image 21 = .ok (.invokevirtual 245, 3) := by decide +kernel
theorem dX11_image_24 : decode cX11_image 24 = .ok (.aload_n 0, 1) := by decide +kernel
theorem dX11_image_25 : decode cX11_image 25 = .ok (.getfield 131, 3) := by decide +kernel
theorem dX11_image_28 : decode cX11_image 28 = .ok (.iload_n 1, 1) := by decide +kernel
theorem dX11_image_29 : decode cX11_image 29 = .ok (.iconst 1, 1) := by decide +kernel
theorem dX11_image_30 : decode cX11_image 30 = .ok (.bastore, 1) := by decide +kernel
theorem dX11_image_31 : decode cX11_image 31 = .ok (.iconst 1, 1) := by decide +kernel
theorem dX11_image_32 : decode cX11_image 32 = .ok (.ireturn, 1) := by decide +kernel
theorem dX11_again_0 : decode cX11_again 0 = .ok (.aload_n 0, 1) := by decide +kernel
theorem dX11_again_1 : decode cX11_again 1 = .ok (.iconst 0, 1) := by decide +kernel
theorem dX11_again_2 : decode cX11_again 2 = .ok (.putfield 134, 3) := by decide +kernel
theorem dX11_again_5 : decode cX11_again 5 = .ok (.iload_n 1, 1) := by decide +kernel
theorem dX11_again_6 : decode cX11_again 6 = .ok (.iconst 0, 1) := by decide +kernel
theorem dX11_again_7 : decode cX11_again 7 = .ok (.iconst 2, 1) := by decide +kernel
theorem dX11_again_8 : decode cX11_again 8 = .ok (.invokestatic 142, 3) := by decide +kernel
theorem dX11_again_11 : decode cX11_again 11 = .ok (.ifCond .eq 12, 3) := by decide +kernel
theorem dX11_again_14 : decode cX11_again 14 = .ok (.aload_n 0, 1) := by decide +kernel
theorem dX11_again_15 : decode cX11_again 15 = .ok (.getfield 131, 3) := by decide +kernel
theorem dX11_again_18 : decode cX11_again 18 = .ok (.iload_n 1, 1) := by decide +kernel
theorem dX11_again_19 : decode cX11_again 19 = .ok (.baload, 1) := by decide +kernel
theorem dX11_again_20 : decode cX11_again 20 = .ok (.ifCond .ne 5, 3) := by decide +kernel
theorem dX11_again_23 : decode cX11_again 23 = .ok (.iconst 0, 1) := by decide +kernel
theorem dX11_again_24 : decode cX11_again 24 = .ok (.ireturn, 1) := by decide +kernel
theorem dX11_again_25 : decode cX11_again 25 = .ok (.aload_n 0, 1) := by decide +kernel
theorem dX11_again_26 : decode cX11_again 26 = .ok (.iload_n 1, 1) := by decide +kernel
theorem dX11_again_27 : decode cX11_again 27 = .ok (.iconst 1, 1) := by decide +kernel
theorem dX11_again_28 : decode cX11_again 28 = .ok (.iadd, 1) := by decide +kernel
theorem dX11_again_29 : decode cX11_again 29 = .ok (.iconst 0, 1) := by decide +kernel
theorem dX11_again_30 : decode cX11_again 30 = .ok (.invokevirtual 245, 3) := by decide +kernel
theorem dX11_again_33 : decode cX11_again 33 = .ok (.iconst 1, 1) := by decide +kernel
theorem dX11_again_34 : decode cX11_again 34 = .ok (.ireturn, 1) := by decide +kernel
