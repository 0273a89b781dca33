theorem dX3_mix_130 : decode cX3_mix 130 = .ok (.ixor, 1) := by decide +kernel
theorem dX3_mix_131 : decode cX3_mix 131 = .ok (.iload 4, 2) := by decide +kernel
theorem dX3_mix_133 : decode cX3_mix 133 = .ok (.bipush 10, 2) := by decide +kernel
theorem dX3_mix_135 : decode cX3_mix 135 = .ok (.iushr, 1) := by decide +kernel
theorem dX3_mix_136 : decode cX3_mix 136 = .ok (.ixor, 1) := by decide +kernel
theorem dX3_mix_137 : decode cX3_mix 137 = .ok (.istore 6, 2) := by decide +kernel
theorem dX3_mix_139 : decode cX3_mix 139 = .ok (.aload_n 0, 1) := by decide +kernel
theorem dX3_mix_140 : decode cX3_mix 140 = .ok (.getfield 109, 3) := by decide +kernel
theorem dX3_mix_143 : decode cX3_mix 143 = .ok (.iload_n 2, 1) := by decide +kernel
theorem dX3_mix_144 : decode cX3_mix 144 = .ok (.aload_n 0, 1) := by decide +kernel
theorem dX3_mix_145 : decode cX3_mix 145 = .ok (.getfield 109, 3) := by decide +kernel
theorem dX3_mix_148 : decode cX3_mix 148 = .ok (.iload_n 2, 1) := by decide +kernel
theorem dX3_mix_149 : decode cX3_mix 149 = .ok (.bipush 16, 2) := by decide +kernel
theorem dX3_mix_151 : decode cX3_mix 151 = .ok (.isub, 1) := by decide +kernel
theorem dX3_mix_152 : decode cX3_mix 152 = .ok (.iaload, 1) := by decide +kernel
theorem dX3_mix_153 : decode cX3_mix 153 = .ok (.iload 5, 2) := by decide +kernel
theorem dX3_mix_155 : decode cX3_mix 155 = .ok (.iadd, 1) := by decide +kernel
theorem dX3_mix_156 : decode cX3_mix 156 = .ok (.aload_n 0, 1) := by decide +kernel
theorem dX3_mix_157 : decode cX3_mix 157 = .ok (.getfield 109, 3) := by decide +kernel
theorem dX3_mix_160 : decode cX3_mix 160 = .ok (.iload_n 2, 1) := by decide +kernel
theorem dX3_mix_161 : decode cX3_mix 161 = .ok (.bipush 7, 2) := by decide +kernel
theorem dX3_mix_163 : decode cX3_mix 163 = .ok (.isub, 1) := by decide +kernel
theorem dX3_mix_164 : decode cX3_mix 164 = .ok (.iaload, 1) := by decide +kernel
theorem dX3_mix_165 : decode cX3_mix 165 = .ok (.iadd, 1) := by decide +kernel
theorem dX3_mix_166 : decode cX3_mix 166 = .ok (.iload 6, 2) := by decide +kernel
theorem dX3_mix_168 : decode cX3_mix 168 = .ok (.iadd, 1) := by decide +kernel
theorem dX3_mix_169 : decode cX3_mix 169 = .ok (.iastore, 1) := by decide +kernel
theorem dX3_mix_170 : decode cX3_mix 170 = .ok (.iinc 2 1, 3) := by decide +kernel
theorem dX3_mix_173 : decode cX3_mix 173 = .ok (.goto (-102), 3) := by decide +kernel
theorem dX3_mix_176 : decode cX3_mix 176 = .ok (.iconst 0, 1) := by decide +kernel
theorem dX3_mix_177 : decode cX3_mix 177 = .ok (.istore_n 2, 1) := by decide +kernel
theorem dX3_mix_178 : decode cX3_mix 178 = .ok (.iload_n 2, 1) := by decide +kernel
theorem dX3_mix_179 : decode cX3_mix 179 = .ok (.bipush 8, 2) := by decide +kernel
theorem dX3_mix_181 : decode cX3_mix 181 = .ok (.if_icmp .ge 21, 3) := by decide +kernel
theorem dX3_mix_184 : decode cX3_mix 184 = .ok (.aload_n 0, 1) := by decide +kernel
theorem dX3_mix_185 : decode cX3_mix 185 = .ok (.getfield 115, 3) := by decide +kernel
theorem dX3_mix_188 : decode cX3_mix 188 = .ok (.iload_n 2, 1) := by decide +kernel
theorem dX3_mix_189 : decode cX3_mix 189 = .ok (.aload_n 0, 1) := by decide +kernel
theorem dX3_mix_190 : decode cX3_mix 190 = .ok (.getfield 112, 3) := by decide +kernel
theorem dX3_mix_193 : decode cX3_mix 193 = .ok (.iload_n 2, 1) := by decide +kernel
theorem dX3_mix_194 : decode cX3_mix 194 = .ok (.iaload, 1) := by decide +kernel
theorem dX3_mix_195 : decode cX3_mix 195 = .ok (.iastore, 1) := by decide +kernel
theorem dX3_mix_196 : decode cX3_mix 196 = .ok (.iinc 2 1, 3) := by decide +kernel
theorem dX3_mix_199 : decode cX3_mix 199 = .ok (.goto (-21), 3) := by decide +kernel
theorem dX3_mix_202 : decode cX3_mix 202 = .ok (.iconst 0, 1) := by decide +kernel
theorem dX3_mix_203 : decode cX3_mix 203 = .ok (.istore_n 2, 1) := by decide +kernel
theorem dX3_mix_204 : decode cX3_mix 204 = .ok (.iload_n 2, 1) := by decide +kernel
theorem dX3_mix_205 : decode cX3_mix 205 = .ok (.bipush 64, 2) := by decide +kernel
theorem dX3_mix_207 : decode cX3_mix 207 = .ok (.if_icmp .ge 14, 3) := by decide +kernel
theorem dX3_mix_210 : decode cX3_mix 210 = .ok (.aload_n 0, 1) := by decide +kernel
theorem dX3_mix_211 : decode cX3_mix 211 = .ok (.iload_n 2, 1) := by decide +kernel
theorem dX3_mix_212 : decode cX3_mix 212 = .ok (.invokevirtual 152, 3) := by decide +kernel
theorem dX3_mix_215 : decode cX3_mix 215 = .ok (.iinc 2 1, 3) := by decide +kernel
theorem dX3_mix_218 : decode cX3_mix 218 = .ok (.goto (-14), 3) := by decide +kernel
theorem dX3_mix_221 : decode cX3_mix 221 = .ok (.iconst 0, 1) := by decide +kernel
theorem dX3_mix_222 : decode cX3_mix 222 = .ok (.istore_n 2, 1) := by decide +kernel
theorem dX3_mix_223 : decode cX3_mix 223 = .ok (.iload_n 2, 1) := by decide +kernel
theorem dX3_mix_224 : decode cX3_mix 224 = .ok (.bipush 8, 2) := by decide +kernel
theorem dX3_mix_226 : decode cX3_mix 226 = .ok (.if_icmp .ge 24, 3) := by decide +kernel
theorem dX3_mix_229 : decode cX3_mix 229 = .ok (.aload_n 0, 1) := by decide +kernel
theorem dX3_mix_230 : decode cX3_mix 230 = .ok (.getfield 112, 3) := by decide +kernel
theorem dX3_mix_233 : decode cX3_mix 233 = .ok (.iload_n 2, 1) := by decide +kernel
theorem dX3_mix_234 : decode cX3_mix 234 = .ok (.dup2, 1) := by decide +kernel
theorem dX3_mix_235 : decode cX3_mix 235 = .ok (.iaload, 1) := by decide +kernel
theorem dX3_mix_236 : decode cX3_mix 236 = .ok (.aload_n 0, 1) := by decide +kernel
theorem dX3_mix_237 : decode cX3_mix 237 = .ok (.getfield 115, 3) := by decide +kernel
theorem dX3_mix_240 : decode cX3_mix 240 = .ok (.iload_n 2, 1) := by decide +kernel
theorem dX3_mix_241 : decode cX3_mix 241 = .ok (.iaload, 1) := by decide +kernel
theorem dX3_mix_242 : decode cX3_mix 242 = .ok (.iadd, 1) := by decide +kernel
theorem dX3_mix_243 : decode cX3_mix 243 = .ok (.iastore, 1) := by decide +kernel
theorem dX3_mix_244 : decode cX3_mix 244 = .ok (.iinc 2 1, 3) := by decide +kernel
theorem dX3_mix_247 : decode cX3_mix 247 = .ok (.goto (-24), 3) := by decide +kernel
theorem dX3_mix_250 : decode cX3_mix 250 = .ok (.return_, 1) := by decide +kernel
set_option maxRecDepth 20000 in
theorem ggX3_round_X3_turned : GoodIn wsX3_round wsX3_turned := goodIn_r _ [7] (by decide +kernel) (by decide +kernel)
set_option maxRecDepth 20000 in
theorem gX3_round_X3_turned : GoodIn wsX3_round (va_wsS RX3 149 yX3_turned wsX3_turned) := goodIn_app (goodIn_of _ (by decide +kernel)) ggX3_round_X3_turned
theorem dX3_round_0 : decode cX3_round 0 = .ok (.aload_n 0, 1) := by decide +kernel
theorem dX3_round_1 : decode cX3_round 1 = .ok (.getfield 115, 3) := by decide +kernel
theorem dX3_round_4 : decode cX3_round 4 = .ok (.iconst 0, 1) := by decide +kernel
theorem dX3_round_5 : decode cX3_round 5 = .ok (.iaload, 1) := by decide +kernel
theorem dX3_round_6 : decode cX3_round 6 = .ok (.istore_n 2, 1) := by decide +kernel
theorem dX3_round_7 : decode cX3_round 7 = .ok (.aload_n 0, 1) := by decide +kernel
theorem dX3_round_8 : decode cX3_round 8 = .ok (.getfield 115, 3) := by decide +kernel
theorem dX3_round_11 : decode cX3_round 11 = .ok (.iconst 1, 1) := by decide +kernel
theorem dX3_round_12 : decode cX3_round 12 = .ok (.iaload, 1) := by decide +kernel
theorem dX3_round_13 : decode cX3_round 13 = .ok (.istore_n 3, 1) := by decide +kernel
theorem dX3_round_14 : decode cX3_round 14 = .ok (.aload_n 0, 1) := by decide +kernel
theorem dX3_round_15 : decode cX3_round 15 = .ok (.getfield 115, 3) := by decide +kernel
theorem dX3_round_18 : decode cX3_round 18 = .ok (.iconst 2, 1) := by decide +kernel
theorem dX3_round_19 : decode cX3_round 19 = .ok (.iaload, 1) := by decide +kernel
theorem dX3_round_20 : decode cX3_round 20 = .ok (.istore 4, 2) := by decide +kernel
theorem dX3_round_22 : decode cX3_round 22 = .ok (.aload_n 0, 1) := by decide +kernel
theorem dX3_round_23 : decode cX3_round 23 = .ok (.getfield 115, 3) := by decide +kernel
theorem dX3_round_26 : decode cX3_round 26 = .ok (.iconst 4, 1) := by decide +kernel
theorem dX3_round_27 : decode cX3_round 27 = .ok (.iaload, 1) := by decide +kernel
theorem dX3_round_28 : decode cX3_round 28 = .ok (.istore 5, 2) := by decide +kernel
theorem dX3_round_30 : decode cX3_round 30 = .ok (.aload_n 0, 1) := by decide +kernel
theorem dX3_round_31 : decode cX3_round 31 = .ok (.getfield 115, 3) := by decide +kernel
theorem dX3_round_34 : decode cX3_round 34 = .ok (.bipush 7, 2) := by decide +kernel
theorem dX3_round_36 : decode cX3_round 36 = .ok (.iaload, 1) := by decide +kernel
theorem dX3_round_37 : decode cX3_round 37 = .ok (.iload 5, 2) := by decide +kernel
theorem dX3_round_39 : decode cX3_round 39 = .ok (.bipush 6, 2) := by decide +kernel
theorem dX3_round_41 : decode cX3_round 41 = .ok (.invokestatic 149, 3) := by decide +kernel
theorem dX3_round_44 : decode cX3_round 44 = .ok (.iload 5, 2) := by decide +kernel
theorem dX3_round_46 : decode cX3_round 46 = .ok (.bipush 11, 2) := by decide +kernel
theorem dX3_round_48 : decode cX3_round 48 = .ok (.invokestatic 149, 3) := by decide +kernel
theorem dX3_round_51 : decode cX3_round 51 = .ok (.ixor, 1) := by decide +kernel
theorem dX3_round_52 : decode cX3_round 52 = .ok (.iload 5, 2) := by decide +kernel
theorem dX3_round_54 : decode cX3_round 54 = .ok (.bipush 25, 2) := by decide +kernel
theorem dX3_round_56 : decode cX3_round 56 = .ok (.invokestatic 149, 3) := by decide +kernel
theorem dX3_round_59 : decode cX3_round 59 = .ok (.ixor, 1) := by decide +kernel
theorem dX3_round_60 : decode cX3_round 60 = .ok (.iadd, 1) := by decide +kernel
theorem dX3_round_61 : decode cX3_round 61 = .ok (.iload 5, 2) := by decide +kernel
theorem dX3_round_63 : decode cX3_round 63 = .ok (.aload_n 0, 1) := by decide +kernel
theorem dX3_round_64 : decode cX3_round 64 = .ok (.getfield 115, 3) := by decide +kernel
theorem dX3_round_67 : decode cX3_round 67 = .ok (.iconst 5, 1) := by decide +kernel
theorem dX3_round_68 : decode cX3_round 68 = .ok (.iaload, 1) := by decide +kernel
theorem dX3_round_69 : decode cX3_round 69 = .ok (.iand, 1) := by decide +kernel
theorem dX3_round_70 : decode cX3_round 70 = .ok (.iload 5, 2) := by decide +kernel
theorem dX3_round_72 : decode cX3_round 72 = .ok (.iconst (-1), 1) := by decide +kernel
theorem dX3_round_73 : decode cX3_round 73 = .ok (.ixor, 1) := by decide +kernel
theorem dX3_round_74 : decode cX3_round 74 = .ok (.aload_n 0, 1) := by decide +kernel
theorem dX3_round_75 : decode cX3_round 75 = .ok (.getfield 115, 3) := by decide +kernel
theorem dX3_round_78 : decode cX3_round 78 = .ok (.bipush 6, 2) := by decide +kernel
theorem dX3_round_80 : decode cX3_round 80 = .ok (.iaload, 1) := by decide +kernel
theorem dX3_round_81 : decode cX3_round 81 = .ok (.iand, 1) := by decide +kernel
theorem dX3_round_82 : decode cX3_round 82 = .ok (.ixor, 1) := by decide +kernel
theorem dX3_round_83 : decode cX3_round 83 = .ok (.iadd, 1) := by decide +kernel
theorem dX3_round_84 : decode cX3_round 84 = .ok (.aload_n 0, 1) := by decide +kernel
theorem dX3_round_85 : decode cX3_round 85 = .ok (.getfield 71, 3) := by decide +kernel
theorem dX3_round_88 : decode cX3_round 88 = .ok (.iload_n 1, 1) := by decide +kernel
theorem dX3_round_89 : decode cX3_round 89 = .ok (.iaload, 1) := by decide +kernel
theorem dX3_round_90 : decode cX3_round 90 = .ok (.iadd, 1) := by decide +kernel
theorem dX3_round_91 : decode cX3_round 91 = .ok (.aload_n 0, 1) := by decide +kernel
theorem dX3_round_92 : decode cX3_round 92 = .ok (.getfield 109, 3) := by decide +kernel
theorem dX3_round_95 : decode cX3_round 95 = .ok (.iload_n 1, 1) := by decide +kernel
theorem dX3_round_96 : decode cX3_round 96 = .ok (.iaload, 1) := by decide +kernel
theorem dX3_round_97 : decode cX3_round 97 = .ok (.iadd, 1) := by decide +kernel
theorem dX3_round_98 : decode cX3_round 98 = .ok (.istore 6, 2) := by decide +kernel
theorem dX3_round_100 : decode cX3_round 100 = .ok (.iload_n 2, 1) := by decide +kernel
theorem dX3_round_101 : decode cX3_round 101 = .ok (.iconst 2, 1) := by decide +kernel
theorem dX3_round_102 : decode cX3_round 102 = .ok (.invokestatic 149, 3) := by decide +kernel
theorem dX3_round_105 : decode cX3_round 105 = .ok (.iload_n 2, 1) := by decide +kernel
theorem dX3_round_106 : decode cX3_round 106 = .ok (.bipush 13, 2) := by decide +kernel
theorem dX3_round_108 : decode cX3_round 108 = .ok (.invokestatic 149, 3) := by decide +kernel
theorem dX3_round_111 : decode cX3_round 111 = .ok (.ixor, 1) := by decide +kernel
theorem dX3_round_112 : decode cX3_round 112 = .ok (.iload_n 2, 1) := by decide +kernel
theorem dX3_round_113 : decode cX3_round 113 = .ok (.bipush 22, 2) := by decide +kernel
theorem dX3_round_115 : decode cX3_round 115 = .ok (.invokestatic 149, 3) := by decide +kernel
theorem dX3_round_118 : decode cX3_round 118 = .ok (.ixor, 1) := by decide +kernel
theorem dX3_round_119 : decode cX3_round 119 = .ok (.iload_n 2, 1) := by decide +kernel
theorem dX3_round_120 : decode cX3_round 120 = .ok (.iload_n 3, 1) := by decide +kernel
theorem dX3_round_121 : decode cX3_round 121 = .ok (.iand, 1) := by decide +kernel
theorem dX3_round_122 : decode cX3_round 122 = .ok (.iload_n 2, 1) := by decide +kernel
theorem dX3_round_123 : decode cX3_round 123 = .ok (.iload 4, 2) := by decide +kernel
theorem dX3_round_125 : decode cX3_round 125 = .ok (.iand, 1) := by decide +kernel
theorem dX3_round_126 : decode cX3_round 126 = .ok (.ixor, 1) := by decide +kernel
theorem dX3_round_127 : decode cX3_round 127 = .ok (.iload_n 3, 1) := by decide +kernel
theorem dX3_round_128 : decode cX3_round 128 = .ok (.iload 4, 2) := by decide +kernel
theorem dX3_round_130 : decode cX3_round 130 = .ok (.iand, 1) := by decide +kernel
theorem dX3_round_131 : decode cX3_round 131 = .ok (.ixor, 1) := by decide +kernel
theorem dX3_round_132 : decode cX3_round 132 = .ok (.iadd, 1) := by decide +kernel
theorem dX3_round_133 : decode cX3_round 133 = .ok (.istore 7, 2) := by decide +kernel
theorem dX3_round_135 : decode cX3_round 135 = .ok (.bipush 7, 2) := by decide +kernel
theorem dX3_round_137 : decode cX3_round 137 = .ok (.istore 8, 2) := by decide +kernel
theorem dX3_round_139 : decode cX3_round 139 = .ok (.iload 8, 2) := by decide +kernel
theorem dX3_round_141 : decode cX3_round 141 = .ok (.ifCond .le 25, 3) := by decide +kernel
theorem dX3_round_144 : decode cX3_round 144 = .ok (.aload_n 0, 1) := by decide +kernel
theorem dX3_round_145 : decode cX3_round 145 = .ok (.getfield 115, 3) := by decide +kernel
theorem dX3_round_148 : decode cX3_round 148 = .ok (.iload 8, 2) := by decide +kernel
theorem dX3_round_150 : decode cX3_round 150 = .ok (.aload_n 0, 1) := by decide +kernel
theorem dX3_round_151 : decode cX3_round 151 = .ok (.getfield 115, 3) := by decide +kernel
theorem dX3_round_154 : decode cX3_round 154 = .ok (.iload 8, 2) := by decide +kernel
theorem dX3_round_156 : decode cX3_round 156 = .ok (.iconst 1, 1) := by decide +kernel
theorem dX3_round_157 : decode cX3_round 157 = .ok (.isub, 1) := by decide +kernel
theorem dX3_round_158 : decode cX3_round 158 = .ok (.iaload, 1) := by decide +kernel
theorem dX3_round_159 : decode cX3_round 159 = .ok (.iastore, 1) := by decide +kernel
theorem dX3_round_160 : decode cX3_round 160 = .ok (.iinc 8 (-1), 3) := by decide +kernel
theorem dX3_round_163 : decode cX3_round 163 = .ok (.goto (-24), 3) := by decide +kernel
theorem dX3_round_166 : decode cX3_round 166 = .ok (.aload_n 0, 1) := by decide +kernel
theorem dX3_round_167 : decode cX3_round 167 = .ok (.getfield 115, 3) := by decide +kernel
theorem dX3_round_170 : decode cX3_round 170 = .ok (.iconst 4, 1) := by decide +kernel
theorem dX3_round_171 : decode cX3_round 171 = .ok (.dup2, 1) := by decide +kernel
theorem dX3_round_172 : decode cX3_round 172 = .ok (.iaload, 1) := by decide +kernel
theorem dX3_round_173 : decode cX3_round 173 = .ok (.iload 6, 2) := by decide +kernel
theorem dX3_round_175 : decode cX3_round 175 = .ok (.iadd, 1) := by decide +kernel
theorem dX3_round_176 : decode cX3_round 176 = .ok (.iastore, 1) := by decide +kernel
theorem dX3_round_177 : decode cX3_round 177 = .ok (.aload_n 0, 1) := by decide +kernel
theorem dX3_round_178 : decode cX3_round 178 = .ok (.getfield 115, 3) := by decide +kernel
theorem dX3_round_181 : decode cX3_round 181 = .ok (.iconst 0, 1) := by decide +kernel
theorem dX3_round_182 : decode cX3_round 182 = .ok (.iload 6, 2) := by decide +kernel
theorem dX3_round_184 : decode cX3_round 184 = .ok (.iload 7, 2) := by decide +kernel
theorem dX3_round_186 : decode cX3_round 186 = .ok (.iadd, 1) := by decide +kernel
theorem dX3_round_187 : decode cX3_round 187 = .ok (.iastore, 1) := by decide +kernel
theorem dX3_round_188 : decode cX3_round 188 = .ok (.return_, 1) := by decide +kernel
theorem dX3_nodesOf_0 : decode cX3_nodesOf 0 = .ok (.aload_n 0, 1) := by decide +kernel
theorem dX3_nodesOf_1 : decode cX3_nodesOf 1 = .ok (.getfield 121, 3) := by decide +kernel
theorem dX3_nodesOf_4 : decode cX3_nodesOf 4 = .ok (.istore_n 2, 1) := by decide +kernel
theorem dX3_nodesOf_5 : decode cX3_nodesOf 5 = .ok (.iconst 0, 1) := by decide +kernel
theorem dX3_nodesOf_6 : decode cX3_nodesOf 6 = .ok (.istore_n 3, 1) := by decide +kernel
theorem dX3_nodesOf_7 : decode cX3_nodesOf 7 = .ok (.iload_n 3, 1) := by decide +kernel
theorem dX3_nodesOf_8 : decode cX3_nodesOf 8 = .ok (.iload_n 1, 1) := by decide +kernel
theorem dX3_nodesOf_9 : decode cX3_nodesOf 9 = .ok (.if_icmp .ge 15, 3) := by decide +kernel
theorem dX3_nodesOf_12 : decode cX3_nodesOf 12 = .ok (.iload_n 2, 1) := by decide +kernel
theorem dX3_nodesOf_13 : decode cX3_nodesOf 13 = .ok (.iconst 1, 1) := by decide +kernel
theorem dX3_nodesOf_14 : decode cX3_nodesOf 14 = .ok (.iadd, 1) := by decide +kernel
theorem dX3_nodesOf_15 : decode cX3_nodesOf 15 = .ok (.iconst 2, 1) := by decide +kernel
theorem dX3_nodesOf_16 : decode cX3_nodesOf 16 = .ok (.idiv, 1) := by decide +kernel
theorem dX3_nodesOf_17 : decode cX3_nodesOf 17 = .ok (.istore_n 2, 1) := by decide +kernel
theorem dX3_nodesOf_18 : decode cX3_nodesOf 18 = .ok (.iinc 3 1, 3) := by decide +kernel
theorem dX3_nodesOf_21 : decode cX3_nodesOf 21 = .ok (.goto (-14), 3) := by decide +kernel
theorem dX3_nodesOf_24 : decode cX3_nodesOf 24 = .ok (.iload_n 2, 1) := by decide +kernel
theorem dX3_nodesOf_25 : decode cX3_nodesOf 25 = .ok (.ireturn, 1) := by decide +kernel
set_option maxRecDepth 20000 in
theorem ggX3_levelsOf_X3_nodesOf : GoodIn wsX3_levelsOf wsX3_nodesOf := goodIn_r _ [5, 6, 7, 8, 9, 10, 11, 12, 13, 14, 15, 16, 17, 18, 19, 20, 21, 22, 23, 24, 25, 26] (by decide +kernel) (by decide +kernel)
set_option maxRecDepth 20000 in
theorem gX3_levelsOf_X3_nodesOf : GoodIn wsX3_levelsOf (wsV RX3 155 RX3 yX3_nodesOf wsX3_nodesOf) := goodIn_app (goodIn_of _ (by decide +kernel)) ggX3_levelsOf_X3_nodesOf
theorem dX3_levelsOf_0 : decode cX3_levelsOf 0 = .ok (.iconst 0, 1) := by decide +kernel
theorem dX3_levelsOf_1 : decode cX3_levelsOf 1 = .ok (.istore_n 1, 1) := by decide +kernel
theorem dX3_levelsOf_2 : decode cX3_levelsOf 2 = .ok (.aload_n 0, 1) := by decide +kernel
theorem dX3_levelsOf_3 : decode cX3_levelsOf 3 = .ok (.iload_n 1, 1) := by decide +kernel
theorem dX3_levelsOf_4 : decode cX3_levelsOf 4 = .ok (.invokevirtual 155, 3) := by decide +kernel
theorem dX3_levelsOf_7 : decode cX3_levelsOf 7 = .ok (.iconst 1, 1) := by decide +kernel
theorem dX3_levelsOf_8 : decode cX3_levelsOf 8 = .ok (.if_icmp .le 9, 3) := by decide +kernel
theorem dX3_levelsOf_11 : decode cX3_levelsOf 11 = .ok (.iinc 1 1, 3) := by decide +kernel
theorem dX3_levelsOf_14 : decode cX3_levelsOf 14 = .ok (.goto (-12), 3) := by decide +kernel
theorem dX3_levelsOf_17 : decode cX3_levelsOf 17 = .ok (.iload_n 1, 1) := by decide +kernel
theorem dX3_levelsOf_18 : decode cX3_levelsOf 18 = .ok (.iconst 1, 1) := by decide +kernel
theorem dX3_levelsOf_19 : decode cX3_levelsOf 19 = .ok (.iadd, 1) := by decide +kernel
theorem dX3_levelsOf_20 : decode cX3_levelsOf 20 = .ok (.ireturn, 1) := by decide +kernel
set_option maxRecDepth 20000 in
theorem ggX3_placeOf_X3_nodesOf : GoodIn wsX3_placeOf wsX3_nodesOf := goodIn_r _ [6, 1, 7, 8, 9, 10, 11, 12, 13, 14, 15, 16, 17, 18, 19, 20, 21, 22, 23, 24, 25, 26] (by decide +kernel) (by decide +kernel)
set_option maxRecDepth 20000 in
theorem gX3_placeOf_X3_nodesOf : GoodIn wsX3_placeOf (wsV RX3 155 RX3 yX3_nodesOf wsX3_nodesOf) := goodIn_app (goodIn_of _ (by decide +kernel)) ggX3_placeOf_X3_nodesOf
theorem dX3_placeOf_0 : decode cX3_placeOf 0 = .ok (.bipush 8, 2) := by decide +kernel
theorem dX3_placeOf_2 : decode cX3_placeOf 2 = .ok (.bipush 64, 2) := by decide +kernel
theorem dX3_placeOf_4 : decode cX3_placeOf 4 = .ok (.aload_n 0, 1) := by decide +kernel
theorem dX3_placeOf_5 : decode cX3_placeOf 5 = .ok (.getfield 121, 3) := by decide +kernel
theorem dX3_placeOf_8 : decode cX3_placeOf 8 = .ok (.imul, 1) := by decide +kernel
theorem dX3_placeOf_9 : decode cX3_placeOf 9 = .ok (.iadd, 1) := by decide +kernel
theorem dX3_placeOf_10 : decode cX3_placeOf 10 = .ok (.istore_n 3, 1) := by decide +kernel
theorem dX3_placeOf_11 : decode cX3_placeOf 11 = .ok (.iconst 0, 1) := by decide +kernel
theorem dX3_placeOf_12 : decode cX3_placeOf 12 = .ok (.istore 4, 2) := by decide +kernel
theorem dX3_placeOf_14 : decode cX3_placeOf 14 = .ok (.iload 4, 2) := by decide +kernel
theorem dX3_placeOf_16 : decode cX3_placeOf 16 = .ok (.iload_n 1, 1) := by decide +kernel
theorem dX3_placeOf_17 : decode cX3_placeOf 17 = .ok (.if_icmp .ge 21, 3) := by decide +kernel
theorem dX3_placeOf_20 : decode cX3_placeOf 20 = .ok (.iload_n 3, 1) := by decide +kernel
theorem dX3_placeOf_21 : decode cX3_placeOf 21 = .ok (.bipush 32, 2) := by decide +kernel
theorem dX3_placeOf_23 : decode cX3_placeOf 23 = .ok (.aload_n 0, 1) := by decide +kernel
theorem dX3_placeOf_24 : decode cX3_placeOf 24 = .ok (.iload 4, 2) := by decide +kernel
theorem dX3_placeOf_26 : decode cX3_placeOf 26 = .ok (.invokevirtual 155, 3) := by decide +kernel
theorem dX3_placeOf_29 : decode cX3_placeOf 29 = .ok (.imul, 1) := by decide +kernel
theorem dX3_placeOf_30 : decode cX3_placeOf 30 = .ok (.iadd, 1) := by decide +kernel
theorem dX3_placeOf_31 : decode cX3_placeOf 31 = .ok (.istore_n 3, 1) := by decide +kernel
theorem dX3_placeOf_32 : decode cX3_placeOf 32 = .ok (.iinc 4 1, 3) := by decide +kernel
theorem dX3_placeOf_35 : decode cX3_placeOf 35 = .ok (.goto (-21), 3) := by decide +kernel
theorem dX3_placeOf_38 : decode cX3_placeOf 38 = .ok (.iload_n 3, 1) := by decide +kernel
theorem dX3_placeOf_39 : decode cX3_placeOf 39 = .ok (.bipush 32, 2) := by decide +kernel
theorem dX3_placeOf_41 : decode cX3_placeOf 41 = .ok (.iload_n 2, 1) := by decide +kernel
theorem dX3_placeOf_42 : decode cX3_placeOf 42 = .ok (.imul, 1) := by decide +kernel
theorem dX3_placeOf_43 : decode cX3_placeOf 43 = .ok (.iadd, 1) := by decide +kernel
theorem dX3_placeOf_44 : decode cX3_placeOf 44 = .ok (.ireturn, 1) := by decide +kernel
theorem dX3_isPage_0 : decode cX3_isPage 0 = .ok (.iload_n 1, 1) := by decide +kernel
theorem dX3_isPage_1 : decode cX3_isPage 1 = .ok (.ifCond .lt 15, 3) := by decide +kernel
theorem dX3_isPage_4 : decode cX3_isPage 4 = .ok (.iload_n 1, 1) := by decide +kernel
theorem dX3_isPage_5 : decode cX3_isPage 5 = .ok (.aload_n 0, 1) := by decide +kernel
theorem dX3_isPage_6 : decode cX3_isPage 6 = .ok (.getfield 121, 3) := by decide +kernel
theorem dX3_isPage_9 : decode cX3_isPage 9 = .ok (.if_icmp .ge 7, 3) := by decide +kernel
theorem dX3_isPage_12 : decode cX3_isPage 12 = .ok (.iconst 1, 1) := by decide +kernel
theorem dX3_isPage_13 : decode cX3_isPage 13 = .ok (.goto 4, 3) := by decide +kernel
theorem dX3_isPage_16 : decode cX3_isPage 16 = .ok (.iconst 0, 1) := by decide +kernel
theorem dX3_isPage_17 : decode cX3_isPage 17 = .ok (.ireturn, 1) := by decide +kernel
theorem dX3_headOf_0 : decode cX3_headOf 0 = .ok (.iload_n 1, 1) := by decide +kernel
theorem dX3_headOf_1 : decode cX3_headOf 1 = .ok (.ifCond .ne 8, 3) := by decide +kernel
theorem dX3_headOf_4 : decode cX3_headOf 4 = .ok (.bipush 83, 2) := by decide +kernel
theorem dX3_headOf_6 : decode cX3_headOf 6 = .ok (.goto 36, 3) := by decide +kernel
theorem dX3_headOf_9 : decode cX3_headOf 9 = .ok (.iload_n 1, 1) := by decide +kernel
theorem dX3_headOf_10 : decode cX3_headOf 10 = .ok (.iconst 1, 1) := by decide +kernel
theorem dX3_headOf_11 : decode cX3_headOf 11 = .ok (.if_icmp .ne 8, 3) := by decide +kernel
theorem dX3_headOf_14 : decode cX3_headOf 14 = .ok (.bipush 73, 2) := by decide +kernel
theorem dX3_headOf_16 : decode cX3_headOf 16 = .ok (.goto 26, 3) := by decide +kernel
theorem dX3_headOf_19 : decode cX3_headOf 19 = .ok (.iload_n 1, 1) := by decide +kernel
theorem dX3_headOf_20 : decode cX3_headOf 20 = .ok (.iconst 2, 1) := by decide +kernel
theorem dX3_headOf_21 : decode cX3_headOf 21 = .ok (.if_icmp .ne 10, 3) := by decide +kernel
theorem dX3_headOf_24 : decode cX3_headOf 24 = .ok (.aload_n 0, 1) := by decide +kernel
theorem dX3_headOf_25 : decode cX3_headOf 25 = .ok (.getfield 121, 3) := by decide +kernel
theorem dX3_headOf_28 : decode cX3_headOf 28 = .ok (.goto 14, 3) := by decide +kernel
theorem dX3_headOf_31 : decode cX3_headOf 31 = .ok (.iload_n 1, 1) := by decide +kernel
theorem dX3_headOf_32 : decode cX3_headOf 32 = .ok (.iconst 3, 1) := by decide +kernel
theorem dX3_headOf_33 : decode cX3_headOf 33 = .ok (.if_icmp .ne 8, 3) := by decide +kernel
theorem dX3_headOf_36 : decode cX3_headOf 36 = .ok (.bipush 64, 2) := by decide +kernel
theorem dX3_headOf_38 : decode cX3_headOf 38 = .ok (.goto 4, 3) := by decide +kernel
theorem dX3_headOf_41 : decode cX3_headOf 41 = .ok (.iconst 0, 1) := by decide +kernel
theorem dX3_headOf_42 : decode cX3_headOf 42 = .ok (.ireturn, 1) := by decide +kernel
set_option maxRecDepth 20000 in
theorem ggX3_hashNode_X3_add : GoodIn wsX3_hashNode wsX3_add := goodIn_r _ [7, 8, 1, 39, 40, 41, 42, 43, 44, 45, 46, 47, 48, 49, 50, 51, 52, 53, 54, 55, 56, 57, 58] (by decide +kernel) (by decide +kernel)
set_option maxRecDepth 20000 in
theorem gX3_hashNode_X3_add : GoodIn wsX3_hashNode (wsV RX3 142 RX3 yX3_add wsX3_add) := goodIn_app (goodIn_of _ (by decide +kernel)) ggX3_hashNode_X3_add
set_option maxRecDepth 20000 in
theorem ggX3_hashNode_X3_nodesOf : GoodIn wsX3_hashNode wsX3_nodesOf := goodIn_r _ [12, 13, 39, 40, 41, 42, 43, 44, 45, 46, 47, 48, 49, 50, 51, 52, 53, 54, 55, 56, 57, 58] (by decide +kernel) (by decide +kernel)
set_option maxRecDepth 20000 in
theorem gX3_hashNode_X3_nodesOf : GoodIn wsX3_hashNode (wsV RX3 155 RX3 yX3_nodesOf wsX3_nodesOf) := goodIn_app (goodIn_of _ (by decide +kernel)) ggX3_hashNode_X3_nodesOf
set_option maxRecDepth 20000 in
theorem ggX3_hashNode_X3_placeOf : GoodIn wsX3_hashNode wsX3_placeOf := goodIn_r _ [17, 13, 9, 10, 11, 6, 12, 39, 40, 41, 42, 43, 44, 45, 46, 47, 48, 49, 50, 51, 52, 53, 54, 55, 56, 57, 58] (by decide +kernel) (by decide +kernel)
set_option maxRecDepth 20000 in
theorem gX3_hashNode_X3_placeOf : GoodIn wsX3_hashNode (wsV RX3 129 RX3 yX3_placeOf wsX3_placeOf) := goodIn_app (goodIn_of _ (by decide +kernel)) ggX3_hashNode_X3_placeOf
set_option maxRecDepth 20000 in
theorem ggX3_hashNode_X3_hashRow : GoodIn wsX3_hashNode wsX3_hashRow := goodIn_r _ [21, 1, 22, 23, 24, 3, 4, 5, 6, 7, 8, 25, 26, 27, 28, 29, 30, 31, 32, 33, 34, 35, 36, 37, 38, 39, 40, 41, 42, 43, 44, 45, 46, 47, 48, 49, 50, 51, 52, 53, 54, 55, 56, 57, 58] (by decide +kernel) (by decide +kernel)
set_option maxRecDepth 20000 in
theorem gX3_hashNode_X3_hashRow : GoodIn wsX3_hashNode (wsV RX3 159 RX3 yX3_hashRow wsX3_hashRow) := goodIn_app (goodIn_of _ (by decide +kernel)) ggX3_hashNode_X3_hashRow
theorem dX3_hashNode_0 : decode cX3_hashNode 0 = .ok (.aload_n 0, 1) := by decide +kernel
theorem dX3_hashNode_1 : decode cX3_hashNode 1 = .ok (.iconst 0, 1) := by decide +kernel
theorem dX3_hashNode_2 : decode cX3_hashNode 2 = .ok (.putfield 139, 3) := by decide +kernel
theorem dX3_hashNode_5 : decode cX3_hashNode 5 = .ok (.aload_n 0, 1) := by decide +kernel
theorem dX3_hashNode_6 : decode cX3_hashNode 6 = .ok (.iload_n 1, 1) := by decide +kernel
theorem dX3_hashNode_7 : decode cX3_hashNode 7 = .ok (.invokevirtual 142, 3) := by decide +kernel
theorem dX3_hashNode_10 : decode cX3_hashNode 10 = .ok (.aload_n 0, 1) := by decide +kernel
theorem dX3_hashNode_11 : decode cX3_hashNode 11 = .ok (.iload_n 2, 1) := by decide +kernel
theorem dX3_hashNode_12 : decode cX3_hashNode 12 = .ok (.invokevirtual 142, 3) := by decide +kernel
theorem dX3_hashNode_15 : decode cX3_hashNode 15 = .ok (.iload_n 1, 1) := by decide +kernel
theorem dX3_hashNode_16 : decode cX3_hashNode 16 = .ok (.ifCond .ne 38, 3) := by decide +kernel
theorem dX3_hashNode_19 : decode cX3_hashNode 19 = .ok (.iconst 0, 1) := by decide +kernel
theorem dX3_hashNode_20 : decode cX3_hashNode 20 = .ok (.istore_n 3, 1) := by decide +kernel
theorem dX3_hashNode_21 : decode cX3_hashNode 21 = .ok (.iload_n 3, 1) := by decide +kernel
theorem dX3_hashNode_22 : decode cX3_hashNode 22 = .ok (.bipush 64, 2) := by decide +kernel
theorem dX3_hashNode_24 : decode cX3_hashNode 24 = .ok (.if_icmp .ge 27, 3) := by decide +kernel
theorem dX3_hashNode_27 : decode cX3_hashNode 27 = .ok (.aload_n 0, 1) := by decide +kernel
theorem dX3_hashNode_28 : decode cX3_hashNode 28 = .ok (.aload_n 0, 1) := by decide +kernel
theorem dX3_hashNode_29 : decode cX3_hashNode 29 = .ok (.getfield 88, 3) := by decide +kernel
theorem dX3_hashNode_32 : decode cX3_hashNode 32 = .ok (.bipush 8, 2) := by decide +kernel
theorem dX3_hashNode_34 : decode cX3_hashNode 34 = .ok (.bipush 64, 2) := by decide +kernel
theorem dX3_hashNode_36 : decode cX3_hashNode 36 = .ok (.iload_n 2, 1) := by decide +kernel
theorem dX3_hashNode_37 : decode cX3_hashNode 37 = .ok (.imul, 1) := by decide +kernel
theorem dX3_hashNode_38 : decode cX3_hashNode 38 = .ok (.iadd, 1) := by decide +kernel
theorem dX3_hashNode_39 : decode cX3_hashNode 39 = .ok (.iload_n 3, 1) := by decide +kernel
theorem dX3_hashNode_40 : decode cX3_hashNode 40 = .ok (.iadd, 1) := by decide +kernel
theorem dX3_hashNode_41 : decode cX3_hashNode 41 = .ok (.iaload, 1) := by decide +kernel
theorem dX3_hashNode_42 : decode cX3_hashNode 42 = .ok (.invokevirtual 142, 3) := by decide +kernel
theorem dX3_hashNode_45 : decode cX3_hashNode 45 = .ok (.iinc 3 1, 3) := by decide +kernel
theorem dX3_hashNode_48 : decode cX3_hashNode 48 = .ok (.goto (-27), 3) := by decide +kernel
theorem dX3_hashNode_51 : decode cX3_hashNode 51 = .ok (.goto 73, 3) := by decide +kernel
theorem dX3_hashNode_54 : decode cX3_hashNode 54 = .ok (.iconst 2, 1) := by decide +kernel
theorem dX3_hashNode_55 : decode cX3_hashNode 55 = .ok (.iload_n 2, 1) := by decide +kernel
theorem dX3_hashNode_56 : decode cX3_hashNode 56 = .ok (.imul, 1) := by decide +kernel
theorem dX3_hashNode_57 : decode cX3_hashNode 57 = .ok (.istore_n 3, 1) := by decide +kernel
theorem dX3_hashNode_58 : decode cX3_hashNode 58 = .ok (.iload_n 3, 1) := by decide +kernel
theorem dX3_hashNode_59 : decode cX3_hashNode 59 = .ok (.iconst 2, 1) := by decide +kernel
theorem dX3_hashNode_60 : decode cX3_hashNode 60 = .ok (.iload_n 2, 1) := by decide +kernel
theorem dX3_hashNode_61 : decode cX3_hashNode 61 = .ok (.imul, 1) := by decide +kernel
theorem dX3_hashNode_62 : decode cX3_hashNode 62 = .ok (.iconst 1, 1) := by decide +kernel
theorem dX3_hashNode_63 : decode cX3_hashNode 63 = .ok (.iadd, 1) := by decide +kernel
theorem dX3_hashNode_64 : decode cX3_hashNode 64 = .ok (.if_icmp .gt 60, 3) := by decide +kernel
theorem dX3_hashNode_67 : decode cX3_hashNode 67 = .ok (.iload_n 3, 1) := by decide +kernel
theorem dX3_hashNode_68 : decode cX3_hashNode 68 = .ok (.aload_n 0, 1) := by decide +kernel
theorem dX3_hashNode_69 : decode cX3_hashNode 69 = .ok (.iload_n 1, 1) := by decide +kernel
theorem dX3_hashNode_70 : decode cX3_hashNode 70 = .ok (.iconst 1, 1) := by decide +kernel
theorem dX3_hashNode_71 : decode cX3_hashNode 71 = .ok (.isub, 1) := by decide +kernel
theorem dX3_hashNode_72 : decode cX3_hashNode 72 = .ok (.invokevirtual 155, 3) := by decide +kernel
theorem dX3_hashNode_75 : decode cX3_hashNode 75 = .ok (.if_icmp .ge 49, 3) := by decide +kernel
theorem dX3_hashNode_78 : decode cX3_hashNode 78 = .ok (.aload_n 0, 1) := by decide +kernel
theorem dX3_hashNode_79 : decode cX3_hashNode 79 = .ok (.iload_n 1, 1) := by decide +kernel
theorem dX3_hashNode_80 : decode cX3_hashNode 80 = .ok (.iconst 1, 1) := by decide +kernel
theorem dX3_hashNode_81 : decode cX3_hashNode 81 = .ok (.isub, 1) := by decide +kernel
theorem dX3_hashNode_82 : decode cX3_hashNode 82 = .ok (.iload_n 3, 1) := by decide +kernel
theorem dX3_hashNode_83 : decode cX3_hashNode 83 = .ok (.invokevirtual 129, 3) := by decide +kernel
theorem dX3_hashNode_86 : decode cX3_hashNode 86 = .ok (.istore 4, 2) := by decide +kernel
theorem dX3_hashNode_88 : decode cX3_hashNode 88 = .ok (.iconst 0, 1) := by decide +kernel
theorem dX3_hashNode_89 : decode cX3_hashNode 89 = .ok (.istore 5, 2) := by decide +kernel
theorem dX3_hashNode_91 : decode cX3_hashNode 91 = .ok (.iload 5, 2) := by decide +kernel
theorem dX3_hashNode_93 : decode cX3_hashNode 93 = .ok (.bipush 32, 2) := by decide +kernel
theorem dX3_hashNode_95 : decode cX3_hashNode 95 = .ok (.if_icmp .ge 23, 3) := by decide +kernel
theorem dX3_hashNode_98 : decode cX3_hashNode 98 = .ok (.aload_n 0, 1) := by decide +kernel
theorem dX3_hashNode_99 : decode cX3_hashNode 99 = .ok (.aload_n 0, 1) := by decide +kernel
theorem dX3_hashNode_100 : decode cX3_hashNode 100 = .ok (.getfield 88, 3) := by decide +kernel
theorem dX3_hashNode_103 : decode cX3_hashNode 103 = .ok (.iload 4, 2) := by decide +kernel
theorem dX3_hashNode_105 : decode cX3_hashNode 105 = .ok (.iload 5, 2) := by decide +kernel
theorem dX3_hashNode_107 : decode cX3_hashNode 107 = .ok (.iadd, 1) := by decide +kernel
theorem dX3_hashNode_108 : decode cX3_hashNode 108 = .ok (.iaload, 1) := by decide +kernel
theorem dX3_hashNode_109 : decode cX3_hashNode 109 = .ok (.invokevirtual 142, 3) := by decide +kernel
theorem dX3_hashNode_112 : decode cX3_hashNode 112 = .ok (.iinc 5 1, 3) := by decide +kernel
theorem dX3_hashNode_115 : decode cX3_hashNode 115 = .ok (.goto (-24), 3) := by decide +kernel
theorem dX3_hashNode_118 : decode cX3_hashNode 118 = .ok (.iinc 3 1, 3) := by decide +kernel
theorem dX3_hashNode_121 : decode cX3_hashNode 121 = .ok (.goto (-63), 3) := by decide +kernel
theorem dX3_hashNode_124 : decode cX3_hashNode 124 = .ok (.aload_n 0, 1) := by decide +kernel
theorem dX3_hashNode_125 : decode cX3_hashNode 125 = .ok (.invokevirtual 159, 3) := by decide +kernel
theorem dX3_hashNode_128 : decode cX3_hashNode 128 = .ok (.return_, 1) := by decide +kernel
set_option maxRecDepth 20000 in
theorem ggX3_hashRoot_X3_add : GoodIn wsX3_hashRoot wsX3_add := goodIn_r _ [7, 8, 1, 43, 44, 45, 46, 47, 48, 49, 50, 51, 52, 53, 54, 55, 56, 57, 58, 59, 60, 61, 62] (by decide +kernel) (by decide +kernel)
set_option maxRecDepth 20000 in
theorem gX3_hashRoot_X3_add : GoodIn wsX3_hashRoot (wsV RX3 142 RX3 yX3_add wsX3_add) := goodIn_app (goodIn_of _ (by decide +kernel)) ggX3_hashRoot_X3_add
set_option maxRecDepth 20000 in
theorem ggX3_hashRoot_X3_levelsOf : GoodIn wsX3_hashRoot wsX3_levelsOf := goodIn_r _ [12, 13, 14, 15, 6, 16, 17, 43, 44, 45, 46, 47, 48, 49, 50, 51, 52, 53, 54, 55, 56, 57, 58, 59, 60, 61, 62] (by decide +kernel) (by decide +kernel)
set_option maxRecDepth 20000 in
theorem gX3_hashRoot_X3_levelsOf : GoodIn wsX3_hashRoot (wsV RX3 125 RX3 yX3_levelsOf wsX3_levelsOf) := goodIn_app (goodIn_of _ (by decide +kernel)) ggX3_hashRoot_X3_levelsOf
set_option maxRecDepth 20000 in
theorem ggX3_hashRoot_X3_placeOf : GoodIn wsX3_hashRoot wsX3_placeOf := goodIn_r _ [21, 17, 13, 14, 15, 6, 16, 43, 44, 45, 46, 47, 48, 49, 50, 51, 52, 53, 54, 55, 56, 57, 58, 59, 60, 61, 62] (by decide +kernel) (by decide +kernel)
set_option maxRecDepth 20000 in
theorem gX3_hashRoot_X3_placeOf : GoodIn wsX3_hashRoot (wsV RX3 129 RX3 yX3_placeOf wsX3_placeOf) := goodIn_app (goodIn_of _ (by decide +kernel)) ggX3_hashRoot_X3_placeOf
set_option maxRecDepth 20000 in
theorem ggX3_hashRoot_X3_hashRow : GoodIn wsX3_hashRoot wsX3_hashRow := goodIn_r _ [25, 1, 26, 27, 28, 3, 4, 5, 6, 7, 8, 29, 30, 31, 32, 33, 34, 35, 36, 37, 38, 39, 40, 41, 42, 43, 44, 45, 46, 47, 48, 49, 50, 51, 52, 53, 54, 55, 56, 57, 58, 59, 60, 61, 62] (by decide +kernel) (by decide +kernel)
set_option maxRecDepth 20000 in
theorem gX3_hashRoot_X3_hashRow : GoodIn wsX3_hashRoot (wsV RX3 159 RX3 yX3_hashRow wsX3_hashRow) := goodIn_app (goodIn_of _ (by decide +kernel)) ggX3_hashRoot_X3_hashRow
theorem dX3_hashRoot_0 : decode cX3_hashRoot 0 = .ok (.aload_n 0, 1) := by decide +kernel
theorem dX3_hashRoot_1 : decode cX3_hashRoot 1 = .ok (.iconst 0, 1) := by decide +kernel
theorem dX3_hashRoot_2 : decode cX3_hashRoot 2 = .ok (.putfield 139, 3) := by decide +kernel
theorem dX3_hashRoot_5 : decode cX3_hashRoot 5 = .ok (.iconst 0, 1) := by decide +kernel
theorem dX3_hashRoot_6 : decode cX3_hashRoot 6 = .ok (.istore_n 1, 1) := by decide +kernel
theorem dX3_hashRoot_7 : decode cX3_hashRoot 7 = .ok (.iload_n 1, 1) := by decide +kernel
theorem dX3_hashRoot_8 : decode cX3_hashRoot 8 = .ok (.bipush 8, 2) := by decide +kernel
theorem dX3_hashRoot_10 : decode cX3_hashRoot 10 = .ok (.if_icmp .ge 19, 3) := by decide +kernel
theorem dX3_hashRoot_13 : decode cX3_hashRoot 13 = .ok (.aload_n 0, 1) := by decide +kernel
theorem dX3_hashRoot_14 : decode cX3_hashRoot 14 = .ok (.aload_n 0, 1) := by decide +kernel
theorem dX3_hashRoot_15 : decode cX3_hashRoot 15 = .ok (.getfield 88, 3) := by decide +kernel
theorem dX3_hashRoot_18 : decode cX3_hashRoot 18 = .ok (.iload_n 1, 1) := by decide +kernel
theorem dX3_hashRoot_19 : decode cX3_hashRoot 19 = .ok (.iaload, 1) := by decide +kernel
theorem dX3_hashRoot_20 : decode cX3_hashRoot 20 = .ok (.invokevirtual 142, 3) := by decide +kernel
theorem dX3_hashRoot_23 : decode cX3_hashRoot 23 = .ok (.iinc 1 1, 3) := by decide +kernel
theorem dX3_hashRoot_26 : decode cX3_hashRoot 26 = .ok (.goto (-19), 3) := by decide +kernel
theorem dX3_hashRoot_29 : decode cX3_hashRoot 29 = .ok (.aload_n 0, 1) := by decide +kernel
theorem dX3_hashRoot_30 : decode cX3_hashRoot 30 = .ok (.aload_n 0, 1) := by decide +kernel
theorem dX3_hashRoot_31 : decode cX3_hashRoot 31 = .ok (.invokevirtual 125, 3) := by decide +kernel
theorem dX3_hashRoot_34 : decode cX3_hashRoot 34 = .ok (.iconst 1, 1) := by decide +kernel
theorem dX3_hashRoot_35 : decode cX3_hashRoot 35 = .ok (.isub, 1) := by decide +kernel
theorem dX3_hashRoot_36 : decode cX3_hashRoot 36 = .ok (.iconst 0, 1) := by decide +kernel
theorem dX3_hashRoot_37 : decode cX3_hashRoot 37 = .ok (.invokevirtual 129, 3) := by decide +kernel
theorem dX3_hashRoot_40 : decode cX3_hashRoot 40 = .ok (.istore_n 1, 1) := by decide +kernel
theorem dX3_hashRoot_41 : decode cX3_hashRoot 41 = .ok (.iconst 0, 1) := by decide +kernel
theorem dX3_hashRoot_42 : decode cX3_hashRoot 42 = .ok (.istore_n 2, 1) := by decide +kernel
theorem dX3_hashRoot_43 : decode cX3_hashRoot 43 = .ok (.iload_n 2, 1) := by decide +kernel
theorem dX3_hashRoot_44 : decode cX3_hashRoot 44 = .ok (.bipush 32, 2) := by decide +kernel
theorem dX3_hashRoot_46 : decode cX3_hashRoot 46 = .ok (.if_icmp .ge 21, 3) := by decide +kernel
theorem dX3_hashRoot_49 : decode cX3_hashRoot 49 = .ok (.aload_n 0, 1) := by decide +kernel
theorem dX3_hashRoot_50 : decode cX3_hashRoot 50 = .ok (.aload_n 0, 1) := by decide +kernel
theorem dX3_hashRoot_51 : decode cX3_hashRoot 51 = .ok (.getfield 88, 3) := by decide +kernel
theorem dX3_hashRoot_54 : decode cX3_hashRoot 54 = .ok (.iload_n 1, 1) := by decide +kernel
theorem dX3_hashRoot_55 : decode cX3_hashRoot 55 = .ok (.iload_n 2, 1) := by decide +kernel
theorem dX3_hashRoot_56 : decode cX3_hashRoot 56 = .ok (.iadd, 1) := by decide +kernel
theorem dX3_hashRoot_57 : decode cX3_hashRoot 57 = .ok (.iaload, 1) := by decide +kernel
theorem dX3_hashRoot_58 : decode cX3_hashRoot 58 = .ok (.invokevirtual 142, 3) := by decide +kernel
theorem dX3_hashRoot_61 : decode cX3_hashRoot 61 = .ok (.iinc 2 1, 3) := by decide +kernel
theorem dX3_hashRoot_64 : decode cX3_hashRoot 64 = .ok (.goto (-21), 3) := by decide +kernel
theorem dX3_hashRoot_67 : decode cX3_hashRoot 67 = .ok (.aload_n 0, 1) := by decide +kernel
theorem dX3_hashRoot_68 : decode cX3_hashRoot 68 = .ok (.invokevirtual 159, 3) := by decide +kernel
theorem dX3_hashRoot_71 : decode cX3_hashRoot 71 = .ok (.return_, 1) := by decide +kernel
set_option maxRecDepth 20000 in
theorem ggX3_isNode_X3_hashNode : GoodIn wsX3_isNode wsX3_hashNode := goodIn_r _ [7, 8, 1, 9, 10, 11, 6, 12, 13, 14, 15, 16, 17, 18, 19, 20, 21, 22, 23, 24, 25, 26, 27, 28, 2, 29, 30, 31, 32, 33, 34, 35, 36, 37, 38, 39, 40, 41, 42, 43, 44, 45, 46, 47, 48, 49, 50, 51, 52, 53, 54, 55, 56, 57, 58, 59, 60, 61, 62] (by decide +kernel) (by decide +kernel)
set_option maxRecDepth 20000 in
theorem gX3_isNode_X3_hashNode : GoodIn wsX3_isNode (wsV RX3 162 RX3 yX3_hashNode wsX3_hashNode) := goodIn_app (goodIn_of _ (by decide +kernel)) ggX3_isNode_X3_hashNode
set_option maxRecDepth 20000 in
theorem ggX3_isNode_X3_placeOf : GoodIn wsX3_isNode wsX3_placeOf := goodIn_r _ [22, 18, 14, 15, 16, 6, 17, 43, 44, 45, 46, 47, 48, 49, 50, 51, 52, 53, 54, 55, 56, 57, 58, 59, 60, 61, 62] (by decide +kernel) (by decide +kernel)
set_option maxRecDepth 20000 in
theorem gX3_isNode_X3_placeOf : GoodIn wsX3_isNode (wsV RX3 129 RX3 yX3_placeOf wsX3_placeOf) := goodIn_app (goodIn_of _ (by decide +kernel)) ggX3_isNode_X3_placeOf
theorem dX3_isNode_0 : decode cX3_isNode 0 = .ok (.aload_n 0, 1) := by decide +kernel
theorem dX3_isNode_1 : decode cX3_isNode 1 = .ok (.iload_n 1, 1) := by decide +kernel
theorem dX3_isNode_2 : decode cX3_isNode 2 = .ok (.iload_n 2, 1) := by decide +kernel
theorem dX3_isNode_3 : decode cX3_isNode 3 = .ok (.invokevirtual 162, 3) := by decide +kernel
theorem dX3_isNode_6 : decode cX3_isNode 6 = .ok (.aload_n 0, 1) := by decide +kernel
theorem dX3_isNode_7 : decode cX3_isNode 7 = .ok (.iload_n 1, 1) := by decide +kernel
theorem dX3_isNode_8 : decode cX3_isNode 8 = .ok (.iload_n 2, 1) := by decide +kernel
theorem dX3_isNode_9 : decode cX3_isNode 9 = .ok (.invokevirtual 129, 3) := by decide +kernel
theorem dX3_isNode_12 : decode cX3_isNode 12 = .ok (.istore_n 3, 1) := by decide +kernel
theorem dX3_isNode_13 : decode cX3_isNode 13 = .ok (.iconst 1, 1) := by decide +kernel
theorem dX3_isNode_14 : decode cX3_isNode 14 = .ok (.istore 4, 2) := by decide +kernel
theorem dX3_isNode_16 : decode cX3_isNode 16 = .ok (.iconst 0, 1) := by decide +kernel
theorem dX3_isNode_17 : decode cX3_isNode 17 = .ok (.istore 5, 2) := by decide +kernel
theorem dX3_isNode_19 : decode cX3_isNode 19 = .ok (.iload 5, 2) := by decide +kernel
theorem dX3_isNode_21 : decode cX3_isNode 21 = .ok (.bipush 32, 2) := by decide +kernel
theorem dX3_isNode_23 : decode cX3_isNode 23 = .ok (.if_icmp .ge 40, 3) := by decide +kernel
theorem dX3_isNode_26 : decode cX3_isNode 26 = .ok (.iload 4, 2) := by decide +kernel
theorem dX3_isNode_28 : decode cX3_isNode 28 = .ok (.ifCond .eq 26, 3) := by decide +kernel
theorem dX3_isNode_31 : decode cX3_isNode 31 = .ok (.aload_n 0, 1) := by decide +kernel
theorem dX3_isNode_32 : decode cX3_isNode 32 = .ok (.getfield 88, 3) := by decide +kernel
theorem dX3_isNode_35 : decode cX3_isNode 35 = .ok (.iload_n 3, 1) := by decide +kernel
theorem dX3_isNode_36 : decode cX3_isNode 36 = .ok (.iload 5, 2) := by decide +kernel
theorem dX3_isNode_38 : decode cX3_isNode 38 = .ok (.iadd, 1) := by decide +kernel
theorem dX3_isNode_39 : decode cX3_isNode 39 = .ok (.iaload, 1) := by decide +kernel
theorem dX3_isNode_40 : decode cX3_isNode 40 = .ok (.aload_n 0, 1) := by decide +kernel
theorem dX3_isNode_41 : decode cX3_isNode 41 = .ok (.getfield 106, 3) := by decide +kernel
theorem dX3_isNode_44 : decode cX3_isNode 44 = .ok (.iload 5, 2) := by decide +kernel
theorem dX3_isNode_46 : decode cX3_isNode 46 = .ok (.iaload, 1) := by decide +kernel
theorem dX3_isNode_47 : decode cX3_isNode 47 = .ok (.if_icmp .ne 7, 3) := by decide +kernel
theorem dX3_isNode_50 : decode cX3_isNode 50 = .ok (.iconst 1, 1) := by decide +kernel
theorem dX3_isNode_51 : decode cX3_isNode 51 = .ok (.goto 4, 3) := by decide +kernel
theorem dX3_isNode_54 : decode cX3_isNode 54 = .ok (.iconst 0, 1) := by decide +kernel
theorem dX3_isNode_55 : decode cX3_isNode 55 = .ok (.istore 4, 2) := by decide +kernel
theorem dX3_isNode_57 : decode cX3_isNode 57 = .ok (.iinc 5 1, 3) := by decide +kernel
theorem dX3_isNode_60 : decode cX3_isNode 60 = .ok (.goto (-41), 3) := by decide +kernel
theorem dX3_isNode_63 : decode cX3_isNode 63 = .ok (.iload 4, 2) := by decide +kernel
theorem dX3_isNode_65 : decode cX3_isNode 65 = .ok (.ireturn, 1) := by decide +kernel
set_option maxRecDepth 20000 in
theorem ggX3_putNode_X3_hashNode : GoodIn wsX3_putNode wsX3_hashNode := goodIn_r _ [7, 8, 1, 9, 10, 11, 6, 12, 13, 14, 15, 16, 17, 18, 19, 20, 21, 22, 23, 24, 25, 26, 27, 28, 2, 29, 30, 31, 32, 33, 34, 35, 36, 37, 38, 39, 40, 41, 42, 43, 44, 45, 46, 47, 48, 49, 50, 51, 52, 53, 54, 55, 56, 57, 58, 59, 60, 61, 62] (by decide +kernel) (by decide +kernel)
set_option maxRecDepth 20000 in
theorem gX3_putNode_X3_hashNode : GoodIn wsX3_putNode (wsV RX3 162 RX3 yX3_hashNode wsX3_hashNode) := goodIn_app (goodIn_of _ (by decide +kernel)) ggX3_putNode_X3_hashNode
set_option maxRecDepth 20000 in
theorem ggX3_putNode_X3_placeOf : GoodIn wsX3_putNode wsX3_placeOf := goodIn_r _ [22, 18, 14, 15, 16, 6, 17, 43, 44, 45, 46, 47, 48, 49, 50, 51, 52, 53, 54, 55, 56, 57, 58, 59, 60, 61, 62] (by decide +kernel) (by decide +kernel)
set_option maxRecDepth 20000 in
theorem gX3_putNode_X3_placeOf : GoodIn wsX3_putNode (wsV RX3 129 RX3 yX3_placeOf wsX3_placeOf) := goodIn_app (goodIn_of _ (by decide +kernel)) ggX3_putNode_X3_placeOf
theorem dX3_putNode_0 : decode cX3_putNode 0 = .ok (.aload_n 0, 1) := by decide +kernel
theorem dX3_putNode_1 : decode cX3_putNode 1 = .ok (.iload_n 1, 1) := by decide +kernel
theorem dX3_putNode_2 : decode cX3_putNode 2 = .ok (.iload_n 2, 1) := by decide +kernel
theorem dX3_putNode_3 : decode cX3_putNode 3 = .ok (.invokevirtual 162, 3) := by decide +kernel
theorem dX3_putNode_6 : decode cX3_putNode 6 = .ok (.aload_n 0, 1) := by decide +kernel
theorem dX3_putNode_7 : decode cX3_putNode 7 = .ok (.iload_n 1, 1) := by decide +kernel
theorem dX3_putNode_8 : decode cX3_putNode 8 = .ok (.iload_n 2, 1) := by decide +kernel
theorem dX3_putNode_9 : decode cX3_putNode 9 = .ok (.invokevirtual 129, 3) := by decide +kernel
theorem dX3_putNode_12 : decode cX3_putNode 12 = .ok (.istore_n 3, 1) := by decide +kernel
theorem dX3_putNode_13 : decode cX3_putNode 13 = .ok (.iconst 0, 1) := by decide +kernel
theorem dX3_putNode_14 : decode cX3_putNode 14 = .ok (.istore 4, 2) := by decide +kernel
theorem dX3_putNode_16 : decode cX3_putNode 16 = .ok (.iload 4, 2) := by decide +kernel
theorem dX3_putNode_18 : decode cX3_putNode 18 = .ok (.bipush 32, 2) := by decide +kernel
theorem dX3_putNode_20 : decode cX3_putNode 20 = .ok (.if_icmp .ge 25, 3) := by decide +kernel
theorem dX3_putNode_23 : decode cX3_putNode 23 = .ok (.aload_n 0, 1) := by decide +kernel
theorem dX3_putNode_24 : decode cX3_putNode 24 = .ok (.getfield 88, 3) := by decide +kernel
theorem dX3_putNode_27 : decode cX3_putNode 27 = .ok (.iload_n 3, 1) := by decide +kernel
theorem dX3_putNode_28 : decode cX3_putNode 28 = .ok (.iload 4, 2) := by decide +kernel
theorem dX3_putNode_30 : decode cX3_putNode 30 = .ok (.iadd, 1) := by decide +kernel
theorem dX3_putNode_31 : decode cX3_putNode 31 = .ok (.aload_n 0, 1) := by decide +kernel
theorem dX3_putNode_32 : decode cX3_putNode 32 = .ok (.getfield 106, 3) := by decide +kernel
theorem dX3_putNode_35 : decode cX3_putNode 35 = .ok (.iload 4, 2) := by decide +kernel
theorem dX3_putNode_37 : decode cX3_putNode 37 = .ok (.iaload, 1) := by decide +kernel
theorem dX3_putNode_38 : decode cX3_putNode 38 = .ok (.iastore, 1) := by decide +kernel
theorem dX3_putNode_39 : decode cX3_putNode 39 = .ok (.iinc 4 1, 3) := by decide +kernel
theorem dX3_putNode_42 : decode cX3_putNode 42 = .ok (.goto (-26), 3) := by decide +kernel
theorem dX3_putNode_45 : decode cX3_putNode 45 = .ok (.return_, 1) := by decide +kernel
set_option maxRecDepth 20000 in
theorem ggX3_putRoot_X3_hashRoot : GoodIn wsX3_putRoot wsX3_hashRoot := goodIn_r _ [7, 8, 9, 10, 11, 12, 6, 13, 14, 15, 16, 17, 18, 19, 20, 21, 22, 23, 24, 25, 26, 27, 28, 29, 30, 31, 32, 33, 2, 34, 35, 36, 37, 38, 39, 40, 41, 42, 43, 44, 45, 46, 47, 48, 49, 50, 51, 52, 53, 54, 55, 56, 57, 58, 59, 60, 61, 62, 63, 64, 65, 66, 67] (by decide +kernel) (by decide +kernel)
set_option maxRecDepth 20000 in
theorem gX3_putRoot_X3_hashRoot : GoodIn wsX3_putRoot (wsV RX3 166 RX3 yX3_hashRoot wsX3_hashRoot) := goodIn_app (goodIn_of _ (by decide +kernel)) ggX3_putRoot_X3_hashRoot
theorem dX3_putRoot_0 : decode cX3_putRoot 0 = .ok (.aload_n 0, 1) := by decide +kernel
theorem dX3_putRoot_1 : decode cX3_putRoot 1 = .ok (.invokevirtual 166, 3) := by decide +kernel
theorem dX3_putRoot_4 : decode cX3_putRoot 4 = .ok (.iconst 0, 1) := by decide +kernel
theorem dX3_putRoot_5 : decode cX3_putRoot 5 = .ok (.istore_n 1, 1) := by decide +kernel
theorem dX3_putRoot_6 : decode cX3_putRoot 6 = .ok (.iload_n 1, 1) := by decide +kernel
theorem dX3_putRoot_7 : decode cX3_putRoot 7 = .ok (.bipush 32, 2) := by decide +kernel
theorem dX3_putRoot_9 : decode cX3_putRoot 9 = .ok (.if_icmp .ge 21, 3) := by decide +kernel
theorem dX3_putRoot_12 : decode cX3_putRoot 12 = .ok (.aload_n 0, 1) := by decide +kernel
theorem dX3_putRoot_13 : decode cX3_putRoot 13 = .ok (.getfield 91, 3) := by decide +kernel
theorem dX3_putRoot_16 : decode cX3_putRoot 16 = .ok (.iload_n 1, 1) := by decide +kernel
theorem dX3_putRoot_17 : decode cX3_putRoot 17 = .ok (.aload_n 0, 1) := by decide +kernel
theorem dX3_putRoot_18 : decode cX3_putRoot 18 = .ok (.getfield 106, 3) := by decide +kernel
theorem dX3_putRoot_21 : decode cX3_putRoot 21 = .ok (.iload_n 1, 1) := by decide +kernel
theorem dX3_putRoot_22 : decode cX3_putRoot 22 = .ok (.iaload, 1) := by decide +kernel
theorem dX3_putRoot_23 : decode cX3_putRoot 23 = .ok (.iastore, 1) := by decide +kernel
theorem dX3_putRoot_24 : decode cX3_putRoot 24 = .ok (.iinc 1 1, 3) := by decide +kernel
theorem dX3_putRoot_27 : decode cX3_putRoot 27 = .ok (.goto (-21), 3) := by decide +kernel
theorem dX3_putRoot_30 : decode cX3_putRoot 30 = .ok (.return_, 1) := by decide +kernel
theorem dX3_nodeOn_0 : decode cX3_nodeOn 0 = .ok (.iload_n 1, 1) := by decide +kernel
theorem dX3_nodeOn_1 : decode cX3_nodeOn 1 = .ok (.istore_n 3, 1) := by decide +kernel
theorem dX3_nodeOn_2 : decode cX3_nodeOn 2 = .ok (.iconst 0, 1) := by decide +kernel
theorem dX3_nodeOn_3 : decode cX3_nodeOn 3 = .ok (.istore 4, 2) := by decide +kernel
theorem dX3_nodeOn_5 : decode cX3_nodeOn 5 = .ok (.iload 4, 2) := by decide +kernel
theorem dX3_nodeOn_7 : decode cX3_nodeOn 7 = .ok (.iload_n 2, 1) := by decide +kernel
theorem dX3_nodeOn_8 : decode cX3_nodeOn 8 = .ok (.if_icmp .ge 13, 3) := by decide +kernel
theorem dX3_nodeOn_11 : decode cX3_nodeOn 11 = .ok (.iload_n 3, 1) := by decide +kernel
theorem dX3_nodeOn_12 : decode cX3_nodeOn 12 = .ok (.iconst 2, 1) := by decide +kernel
theorem dX3_nodeOn_13 : decode cX3_nodeOn 13 = .ok (.idiv, 1) := by decide +kernel
theorem dX3_nodeOn_14 : decode cX3_nodeOn 14 = .ok (.istore_n 3, 1) := by decide +kernel
theorem dX3_nodeOn_15 : decode cX3_nodeOn 15 = .ok (.iinc 4 1, 3) := by decide +kernel
theorem dX3_nodeOn_18 : decode cX3_nodeOn 18 = .ok (.goto (-13), 3) := by decide +kernel
theorem dX3_nodeOn_21 : decode cX3_nodeOn 21 = .ok (.iload_n 3, 1) := by decide +kernel
theorem dX3_nodeOn_22 : decode cX3_nodeOn 22 = .ok (.ireturn, 1) := by decide +kernel
set_option maxRecDepth 20000 in
theorem ggX3_faultOf_X3_headOf : GoodIn wsX3_faultOf wsX3_headOf := goodIn_r _ [8, 9, 64, 65, 66, 67, 68, 69, 70, 71, 72, 73, 74, 75, 76, 77, 78, 79, 80, 81, 82, 83] (by decide +kernel) (by decide +kernel)
set_option maxRecDepth 20000 in
theorem gX3_faultOf_X3_headOf : GoodIn wsX3_faultOf (wsV RX3 169 RX3 yX3_headOf wsX3_headOf) := goodIn_app (goodIn_of _ (by decide +kernel)) ggX3_faultOf_X3_headOf
set_option maxRecDepth 20000 in
theorem ggX3_faultOf_X3_hashRoot : GoodIn wsX3_faultOf wsX3_hashRoot := goodIn_r _ [13, 14, 1, 15, 16, 17, 7, 18, 19, 20, 21, 22, 23, 24, 25, 26, 27, 9, 28, 29, 30, 31, 32, 33, 34, 35, 36, 37, 3, 38, 39, 40, 41, 42, 43, 44, 45, 46, 47, 48, 49, 50, 51, 64, 65, 66, 67, 68, 69, 70, 71, 72, 73, 74, 75, 76, 77, 78, 79, 80, 81, 82, 83] (by decide +kernel) (by decide +kernel)
set_option maxRecDepth 20000 in
theorem gX3_faultOf_X3_hashRoot : GoodIn wsX3_faultOf (wsV RX3 166 RX3 yX3_hashRoot wsX3_hashRoot) := goodIn_app (goodIn_of _ (by decide +kernel)) ggX3_faultOf_X3_hashRoot
set_option maxRecDepth 20000 in
theorem ggX3_faultOf_X3_levelsOf : GoodIn wsX3_faultOf wsX3_levelsOf := goodIn_r _ [23, 24, 25, 26, 7, 27, 9, 64, 65, 66, 67, 68, 69, 70, 71, 72, 73, 74, 75, 76, 77, 78, 79, 80, 81, 82, 83] (by decide +kernel) (by decide +kernel)
set_option maxRecDepth 20000 in
theorem gX3_faultOf_X3_levelsOf : GoodIn wsX3_faultOf (wsV RX3 125 RX3 yX3_levelsOf wsX3_levelsOf) := goodIn_app (goodIn_of _ (by decide +kernel)) ggX3_faultOf_X3_levelsOf
set_option maxRecDepth 20000 in
theorem ggX3_faultOf_X3_nodeOn : GoodIn wsX3_faultOf wsX3_nodeOn := goodIn_r _ [55] (by decide +kernel) (by decide +kernel)
set_option maxRecDepth 20000 in
theorem gX3_faultOf_X3_nodeOn : GoodIn wsX3_faultOf (wsV RX3 172 RX3 yX3_nodeOn wsX3_nodeOn) := goodIn_app (goodIn_of _ (by decide +kernel)) ggX3_faultOf_X3_nodeOn
set_option maxRecDepth 20000 in
theorem ggX3_faultOf_X3_isNode : GoodIn wsX3_faultOf wsX3_isNode := goodIn_r _ [59, 1, 3, 60, 61, 62, 7, 63, 14, 15, 16, 17, 18, 19, 24, 25, 26, 27, 9, 28, 29, 30, 31, 32, 33, 34, 35, 36, 37, 38, 39, 40, 41, 42, 43, 44, 45, 46, 47, 48, 49, 50, 51, 64, 65, 66, 67, 68, 69, 70, 71, 72, 73, 74, 75, 76, 77, 78, 79, 80, 81, 82, 83] (by decide +kernel) (by decide +kernel)
set_option maxRecDepth 20000 in
theorem gX3_faultOf_X3_isNode : GoodIn wsX3_faultOf (wsV RX3 175 RX3 yX3_isNode wsX3_isNode) := goodIn_app (goodIn_of _ (by decide +kernel)) ggX3_faultOf_X3_isNode
theorem dX3_faultOf_0 : decode cX3_faultOf 0 = .ok (.iconst 0, 1) := by decide +kernel
theorem dX3_faultOf_1 : decode cX3_faultOf 1 = .ok (.istore_n 2, 1) := by decide +kernel
theorem dX3_faultOf_2 : decode cX3_faultOf 2 = .ok (.iload_n 2, 1) := by decide +kernel
theorem dX3_faultOf_3 : decode cX3_faultOf 3 = .ok (.bipush 8, 2) := by decide +kernel
theorem dX3_faultOf_5 : decode cX3_faultOf 5 = .ok (.if_icmp .ge 25, 3) := by decide +kernel
theorem dX3_faultOf_8 : decode cX3_faultOf 8 = .ok (.aload_n 0, 1) := by decide +kernel
theorem dX3_faultOf_9 : decode cX3_faultOf 9 = .ok (.getfield 88, 3) := by decide +kernel
theorem dX3_faultOf_12 : decode cX3_faultOf 12 = .ok (.iload_n 2, 1) := by decide +kernel
theorem dX3_faultOf_13 : decode cX3_faultOf 13 = .ok (.iaload, 1) := by decide +kernel
theorem dX3_faultOf_14 : decode cX3_faultOf 14 = .ok (.aload_n 0, 1) := by decide +kernel
theorem dX3_faultOf_15 : decode cX3_faultOf 15 = .ok (.iload_n 2, 1) := by decide +kernel
theorem dX3_faultOf_16 : decode cX3_faultOf 16 = .ok (.invokevirtual 169, 3) := by decide +kernel
theorem dX3_faultOf_19 : decode cX3_faultOf 19 = .ok (.if_icmp .eq 5, 3) := by decide +kernel
theorem dX3_faultOf_22 : decode cX3_faultOf 22 = .ok (.iconst 1, 1) := by decide +kernel
theorem dX3_faultOf_23 : decode cX3_faultOf 23 = .ok (.ireturn, 1) := by decide +kernel
theorem dX3_faultOf_24 : decode cX3_faultOf 24 = .ok (.iinc 2 1, 3) := by decide +kernel
theorem dX3_faultOf_27 : decode cX3_faultOf 27 = .ok (.goto (-25), 3) := by decide +kernel
theorem dX3_faultOf_30 : decode cX3_faultOf 30 = .ok (.aload_n 0, 1) := by decide +kernel
theorem dX3_faultOf_31 : decode cX3_faultOf 31 = .ok (.invokevirtual 166, 3) := by decide +kernel
theorem dX3_faultOf_34 : decode cX3_faultOf 34 = .ok (.iconst 0, 1) := by decide +kernel
theorem dX3_faultOf_35 : decode cX3_faultOf 35 = .ok (.istore_n 2, 1) := by decide +kernel
theorem dX3_faultOf_36 : decode cX3_faultOf 36 = .ok (.iload_n 2, 1) := by decide +kernel
theorem dX3_faultOf_37 : decode cX3_faultOf 37 = .ok (.bipush 32, 2) := by decide +kernel
theorem dX3_faultOf_39 : decode cX3_faultOf 39 = .ok (.if_icmp .ge 26, 3) := by decide +kernel
theorem dX3_faultOf_42 : decode cX3_faultOf 42 = .ok (.aload_n 0, 1) := by decide +kernel
theorem dX3_faultOf_43 : decode cX3_faultOf 43 = .ok (.getfield 91, 3) := by decide +kernel
theorem dX3_faultOf_46 : decode cX3_faultOf 46 = .ok (.iload_n 2, 1) := by decide +kernel
theorem dX3_faultOf_47 : decode cX3_faultOf 47 = .ok (.iaload, 1) := by decide +kernel
theorem dX3_faultOf_48 : decode cX3_faultOf 48 = .ok (.aload_n 0, 1) := by decide +kernel
theorem dX3_faultOf_49 : decode cX3_faultOf 49 = .ok (.getfield 106, 3) := by decide +kernel
theorem dX3_faultOf_52 : decode cX3_faultOf 52 = .ok (.iload_n 2, 1) := by decide +kernel
theorem dX3_faultOf_53 : decode cX3_faultOf 53 = .ok (.iaload, 1) := by decide +kernel
theorem dX3_faultOf_54 : decode cX3_faultOf 54 = .ok (.if_icmp .eq 5, 3) := by decide +kernel
theorem dX3_faultOf_57 : decode cX3_faultOf 57 = .ok (.iconst 2, 1) := by decide +kernel
theorem dX3_faultOf_58 : decode cX3_faultOf 58 = .ok (.ireturn, 1) := by decide +kernel
theorem dX3_faultOf_59 : decode cX3_faultOf 59 = .ok (.iinc 2 1, 3) := by decide +kernel
theorem dX3_faultOf_62 : decode cX3_faultOf 62 = .ok (.goto (-26), 3) := by decide +kernel
theorem dX3_faultOf_65 : decode cX3_faultOf 65 = .ok (.aload_n 0, 1) := by decide +kernel
theorem dX3_faultOf_66 : decode cX3_faultOf 66 = .ok (.invokevirtual 125, 3) := by decide +kernel
theorem dX3_faultOf_69 : decode cX3_faultOf 69 = .ok (.iconst 1, 1) := by decide +kernel
theorem dX3_faultOf_70 : decode cX3_faultOf 70 = .ok (.isub, 1) := by decide +kernel
theorem dX3_faultOf_71 : decode cX3_faultOf 71 = .ok (.istore_n 2, 1) := by decide +kernel
theorem dX3_faultOf_72 : decode cX3_faultOf 72 = .ok (.iload_n 2, 1) := by decide +kernel
theorem dX3_faultOf_73 : decode cX3_faultOf 73 = .ok (.ifCond .lt 27, 3) := by decide +kernel
theorem dX3_faultOf_76 : decode cX3_faultOf 76 = .ok (.aload_n 0, 1) := by decide +kernel
theorem dX3_faultOf_77 : decode cX3_faultOf 77 = .ok (.iload_n 2, 1) := by decide +kernel
theorem dX3_faultOf_78 : decode cX3_faultOf 78 = .ok (.aload_n 0, 1) := by decide +kernel
theorem dX3_faultOf_79 : decode cX3_faultOf 79 = .ok (.iload_n 1, 1) := by decide +kernel
theorem dX3_faultOf_80 : decode cX3_faultOf 80 = .ok (.iload_n 2, 1) := by decide +kernel
theorem dX3_faultOf_81 : decode cX3_faultOf 81 = .ok (.invokevirtual 172, 3) := by decide +kernel
theorem dX3_faultOf_84 : decode cX3_faultOf 84 = .ok (.invokevirtual 175, 3) := by decide +kernel
theorem dX3_faultOf_87 : decode cX3_faultOf 87 = .ok (.ifCond .ne 7, 3) := by decide +kernel
theorem dX3_faultOf_90 : decode cX3_faultOf 90 = .ok (.iconst 3, 1) := by decide +kernel
theorem dX3_faultOf_91 : decode cX3_faultOf 91 = .ok (.iload_n 2, 1) := by decide +kernel
theorem dX3_faultOf_92 : decode cX3_faultOf 92 = .ok (.iadd, 1) := by decide +kernel
theorem dX3_faultOf_93 : decode cX3_faultOf 93 = .ok (.ireturn, 1) := by decide +kernel
theorem dX3_faultOf_94 : decode cX3_faultOf 94 = .ok (.iinc 2 (-1), 3) := by decide +kernel
theorem dX3_faultOf_97 : decode cX3_faultOf 97 = .ok (.goto (-25), 3) := by decide +kernel
theorem dX3_faultOf_100 : decode cX3_faultOf 100 = .ok (.iconst 0, 1) := by decide +kernel
theorem dX3_faultOf_101 : decode cX3_faultOf 101 = .ok (.ireturn, 1) := by decide +kernel
theorem dX3_put_0 : decode cX3_put 0 = .ok (.iload_n 1, 1) := by decide +kernel
theorem dX3_put_1 : decode cX3_put 1 = .ok (.ifCond .lt 9, 3) := by decide +kernel
theorem dX3_put_4 : decode cX3_put 4 = .ok (.iload_n 1, 1) := by decide +kernel
theorem dX3_put_5 : decode cX3_put 5 = .ok (.bipush 63, 2) := by decide +kernel
theorem dX3_put_7 : decode cX3_put 7 = .ok (.if_icmp .le 5, 3) := by decide +kernel
theorem dX3_put_10 : decode cX3_put 10 = .ok (.iconst (-1), 1) := by decide +kernel
theorem dX3_put_11 : decode cX3_put 11 = .ok (.ireturn, 1) := by decide +kernel
theorem dX3_put_12 : decode cX3_put 12 = .ok (.aload_n 0, 1) := by decide +kernel
theorem dX3_put_13 : decode cX3_put 13 = .ok (.getfield 94, 3) := by decide +kernel
theorem dX3_put_16 : decode cX3_put 16 = .ok (.iload_n 1, 1) := by decide +kernel
theorem dX3_put_17 : decode cX3_put 17 = .ok (.iaload, 1) := by decide +kernel
theorem dX3_put_18 : decode cX3_put 18 = .ok (.istore_n 3, 1) := by decide +kernel
theorem dX3_put_19 : decode cX3_put 19 = .ok (.aload_n 0, 1) := by decide +kernel
theorem dX3_put_20 : decode cX3_put 20 = .ok (.getfield 94, 3) := by decide +kernel
theorem dX3_put_23 : decode cX3_put 23 = .ok (.iload_n 1, 1) := by decide +kernel
theorem dX3_put_24 : decode cX3_put 24 = .ok (.iload_n 2, 1) := by decide +kernel
theorem dX3_put_25 : decode cX3_put 25 = .ok (.sipush 255, 3) := by decide +kernel
theorem dX3_put_28 : decode cX3_put 28 = .ok (.iand, 1) := by decide +kernel
theorem dX3_put_29 : decode cX3_put 29 = .ok (.iastore, 1) := by decide +kernel
theorem dX3_put_30 : decode cX3_put 30 = .ok (.iload_n 3, 1) := by decide +kernel
theorem dX3_put_31 : decode cX3_put 31 = .ok (.ireturn, 1) := by decide +kernel
theorem dX3_fill_0 : decode cX3_fill 0 = .ok (.iload_n 1, 1) := by decide +kernel
theorem dX3_fill_1 : decode cX3_fill 1 = .ok (.ifCond .lt 9, 3) := by decide +kernel
theorem dX3_fill_4 : decode cX3_fill 4 = .ok (.iload_n 1, 1) := by decide +kernel
theorem dX3_fill_5 : decode cX3_fill 5 = .ok (.bipush 7, 2) := by decide +kernel
theorem dX3_fill_7 : decode cX3_fill 7 = .ok (.if_icmp .le 5, 3) := by decide +kernel
theorem dX3_fill_10 : decode cX3_fill 10 = .ok (.iconst (-1), 1) := by decide +kernel
theorem dX3_fill_11 : decode cX3_fill 11 = .ok (.ireturn, 1) := by decide +kernel
theorem dX3_fill_12 : decode cX3_fill 12 = .ok (.iconst 0, 1) := by decide +kernel
theorem dX3_fill_13 : decode cX3_fill 13 = .ok (.istore 4, 2) := by decide +kernel
theorem dX3_fill_15 : decode cX3_fill 15 = .ok (.iload 4, 2) := by decide +kernel
theorem dX3_fill_17 : decode cX3_fill 17 = .ok (.bipush 8, 2) := by decide +kernel
theorem dX3_fill_19 : decode cX3_fill 19 = .ok (.if_icmp .ge 36, 3) := by decide +kernel
theorem dX3_fill_22 : decode cX3_fill 22 = .ok (.aload_n 0, 1) := by decide +kernel
theorem dX3_fill_23 : decode cX3_fill 23 = .ok (.getfield 94, 3) := by decide +kernel
theorem dX3_fill_26 : decode cX3_fill 26 = .ok (.bipush 8, 2) := by decide +kernel
theorem dX3_fill_28 : decode cX3_fill 28 = .ok (.iload_n 1, 1) := by decide +kernel
theorem dX3_fill_29 : decode cX3_fill 29 = .ok (.imul, 1) := by decide +kernel
theorem dX3_fill_30 : decode cX3_fill 30 = .ok (.iload 4, 2) := by decide +kernel
theorem dX3_fill_32 : decode cX3_fill 32 = .ok (.iadd, 1) := by decide +kernel
theorem dX3_fill_33 : decode cX3_fill 33 = .ok (.lload_n 2, 1) := by decide +kernel
theorem dX3_fill_34 : decode cX3_fill 34 = .ok (.bipush 56, 2) := by decide +kernel
theorem dX3_fill_36 : decode cX3_fill 36 = .ok (.bipush 8, 2) := by decide +kernel
theorem dX3_fill_38 : decode cX3_fill 38 = .ok (.iload 4, 2) := by decide +kernel
theorem dX3_fill_40 : decode cX3_fill 40 = .ok (.imul, 1) := by decide +kernel
theorem dX3_fill_41 : decode cX3_fill 41 = .ok (.isub, 1) := by decide +kernel
theorem dX3_fill_42 : decode cX3_fill 42 = .ok (.lushr, 1) := by decide +kernel
theorem dX3_fill_43 : decode cX3_fill 43 = .ok (.l2i, 1) := by decide +kernel
theorem dX3_fill_44 : decode cX3_fill 44 = .ok (.sipush 255, 3) := by decide +kernel
theorem dX3_fill_47 : decode cX3_fill 47 = .ok (.iand, 1) := by decide +kernel
theorem dX3_fill_48 : decode cX3_fill 48 = .ok (.iastore, 1) := by decide +kernel
theorem dX3_fill_49 : decode cX3_fill 49 = .ok (.iinc 4 1, 3) := by decide +kernel
theorem dX3_fill_52 : decode cX3_fill 52 = .ok (.goto (-37), 3) := by decide +kernel
theorem dX3_fill_55 : decode cX3_fill 55 = .ok (.bipush 8, 2) := by decide +kernel
theorem dX3_fill_57 : decode cX3_fill 57 = .ok (.iload_n 1, 1) := by decide +kernel
theorem dX3_fill_58 : decode cX3_fill 58 = .ok (.imul, 1) := by decide +kernel
theorem dX3_fill_59 : decode cX3_fill 59 = .ok (.ireturn, 1) := by decide +kernel
theorem dX3_draft_0 : decode cX3_draft 0 = .ok (.iload_n 1, 1) := by decide +kernel
theorem dX3_draft_1 : decode cX3_draft 1 = .ok (.ifCond .lt 9, 3) := by decide +kernel
theorem dX3_draft_4 : decode cX3_draft 4 = .ok (.iload_n 1, 1) := by decide +kernel
theorem dX3_draft_5 : decode cX3_draft 5 = .ok (.bipush 63, 2) := by decide +kernel
theorem dX3_draft_7 : decode cX3_draft 7 = .ok (.if_icmp .le 7, 3) := by decide +kernel
theorem dX3_draft_10 : decode cX3_draft 10 = .ok (.iconst (-1), 1) := by decide +kernel
theorem dX3_draft_11 : decode cX3_draft 11 = .ok (.goto 9, 3) := by decide +kernel
theorem dX3_draft_14 : decode cX3_draft 14 = .ok (.aload_n 0, 1) := by decide +kernel
theorem dX3_draft_15 : decode cX3_draft 15 = .ok (.getfield 94, 3) := by decide +kernel
theorem dX3_draft_18 : decode cX3_draft 18 = .ok (.iload_n 1, 1) := by decide +kernel
theorem dX3_draft_19 : decode cX3_draft 19 = .ok (.iaload, 1) := by decide +kernel
theorem dX3_draft_20 : decode cX3_draft 20 = .ok (.ireturn, 1) := by decide +kernel
set_option maxRecDepth 20000 in
theorem ggX3_read_X3_isPage : GoodIn wsX3_read wsX3_isPage := goodIn_r _ [9, 10, 75, 76, 77, 78, 79, 80, 81, 82, 83, 84, 85, 86, 87, 88, 89, 90, 91, 92, 93, 94] (by decide +kernel) (by decide +kernel)
set_option maxRecDepth 20000 in
theorem gX3_read_X3_isPage : GoodIn wsX3_read (wsV RX3 179 RX3 yX3_isPage wsX3_isPage) := goodIn_app (goodIn_of _ (by decide +kernel)) ggX3_read_X3_isPage
set_option maxRecDepth 20000 in
theorem ggX3_read_X3_faultOf : GoodIn wsX3_read wsX3_faultOf := goodIn_r _ [14, 3, 15, 16, 17, 18, 19, 8, 20, 10, 21, 22, 23, 24, 25, 26, 27, 28, 29, 30, 31, 32, 33, 34, 35, 36, 37, 38, 39, 40, 41, 42, 43, 44, 45, 46, 47, 48, 49, 50, 51, 52, 53, 54, 55, 56, 57, 58, 59, 60, 61, 62, 63, 64, 65, 66, 67, 68, 69, 70, 71, 72, 73, 74, 75, 76, 77, 78, 79, 80, 81, 82, 83, 84, 85, 86, 87, 88, 89, 90, 91, 92, 93, 94] (by decide +kernel) (by decide +kernel)
set_option maxRecDepth 20000 in
theorem gX3_read_X3_faultOf : GoodIn wsX3_read (wsV RX3 183 RX3 yX3_faultOf wsX3_faultOf) := goodIn_app (goodIn_of _ (by decide +kernel)) ggX3_read_X3_faultOf
theorem dX3_read_0 : decode cX3_read 0 = .ok (.aload_n 0, 1) := by decide +kernel
theorem dX3_read_1 : decode cX3_read 1 = .ok (.iload_n 1, 1) := by decide +kernel
theorem dX3_read_2 : decode cX3_read 2 = .ok (.invokevirtual 179, 3) := by decide +kernel
theorem dX3_read_5 : decode cX3_read 5 = .ok (.ifCond .ne 5, 3) := by decide +kernel
theorem dX3_read_8 : decode cX3_read 8 = .ok (.iconst (-1), 1) := by decide +kernel
theorem dX3_read_9 : decode cX3_read 9 = .ok (.ireturn, 1) := by decide +kernel
theorem dX3_read_10 : decode cX3_read 10 = .ok (.aload_n 0, 1) := by decide +kernel
theorem dX3_read_11 : decode cX3_read 11 = .ok (.iload_n 1, 1) := by decide +kernel
theorem dX3_read_12 : decode cX3_read 12 = .ok (.invokevirtual 183, 3) := by decide +kernel
theorem dX3_read_15 : decode cX3_read 15 = .ok (.istore_n 2, 1) := by decide +kernel
theorem dX3_read_16 : decode cX3_read 16 = .ok (.iload_n 2, 1) := by decide +kernel
theorem dX3_read_17 : decode cX3_read 17 = .ok (.ifCond .eq 15, 3) := by decide +kernel
theorem dX3_read_20 : decode cX3_read 20 = .ok (.aload_n 0, 1) := by decide +kernel
theorem dX3_read_21 : decode cX3_read 21 = .ok (.dup, 1) := by decide +kernel
theorem dX3_read_22 : decode cX3_read 22 = .ok (.getfield 186, 3) := by decide +kernel
theorem dX3_read_25 : decode cX3_read 25 = .ok (.iconst 1, 1) := by decide +kernel
theorem dX3_read_26 : decode cX3_read 26 = .ok (.iadd, 1) := by decide +kernel
theorem dX3_read_27 : decode cX3_read 27 = .ok (.putfield 186, 3) := by decide +kernel
theorem dX3_read_30 : decode cX3_read 30 = .ok (.iload_n 2, 1) := by decide +kernel
theorem dX3_read_31 : decode cX3_read 31 = .ok (.ireturn, 1) := by decide +kernel
theorem dX3_read_32 : decode cX3_read 32 = .ok (.iconst 0, 1) := by decide +kernel
theorem dX3_read_33 : decode cX3_read 33 = .ok (.istore_n 3, 1) := by decide +kernel
theorem dX3_read_34 : decode cX3_read 34 = .ok (.iload_n 3, 1) := by decide +kernel
theorem dX3_read_35 : decode cX3_read 35 = .ok (.bipush 64, 2) := by decide +kernel
theorem dX3_read_37 : decode cX3_read 37 = .ok (.if_icmp .ge 29, 3) := by decide +kernel
theorem dX3_read_40 : decode cX3_read 40 = .ok (.aload_n 0, 1) := by decide +kernel
theorem dX3_read_41 : decode cX3_read 41 = .ok (.getfield 94, 3) := by decide +kernel
theorem dX3_read_44 : decode cX3_read 44 = .ok (.iload_n 3, 1) := by decide +kernel
theorem dX3_read_45 : decode cX3_read 45 = .ok (.aload_n 0, 1) := by decide +kernel
theorem dX3_read_46 : decode cX3_read 46 = .ok (.getfield 88, 3) := by decide +kernel
theorem dX3_read_49 : decode cX3_read 49 = .ok (.bipush 8, 2) := by decide +kernel
theorem dX3_read_51 : decode cX3_read 51 = .ok (.bipush 64, 2) := by decide +kernel
theorem dX3_read_53 : decode cX3_read 53 = .ok (.iload_n 1, 1) := by decide +kernel
theorem dX3_read_54 : decode cX3_read 54 = .ok (.imul, 1) := by decide +kernel
theorem dX3_read_55 : decode cX3_read 55 = .ok (.iadd, 1) := by decide +kernel
theorem dX3_read_56 : decode cX3_read 56 = .ok (.iload_n 3, 1) := by decide +kernel
theorem dX3_read_57 : decode cX3_read 57 = .ok (.iadd, 1) := by decide +kernel
theorem dX3_read_58 : decode cX3_read 58 = .ok (.iaload, 1) := by decide +kernel
theorem dX3_read_59 : decode cX3_read 59 = .ok (.iastore, 1) := by decide +kernel
theorem dX3_read_60 : decode cX3_read 60 = .ok (.iinc 3 1, 3) := by decide +kernel
theorem dX3_read_63 : decode cX3_read 63 = .ok (.goto (-29), 3) := by decide +kernel
theorem dX3_read_66 : decode cX3_read 66 = .ok (.aload_n 0, 1) := by decide +kernel
theorem dX3_read_67 : decode cX3_read 67 = .ok (.dup, 1) := by decide +kernel
theorem dX3_read_68 : decode cX3_read 68 = .ok (.getfield 189, 3) := by decide +kernel
theorem dX3_read_71 : decode cX3_read 71 = .ok (.iconst 1, 1) := by decide +kernel
theorem dX3_read_72 : decode cX3_read 72 = .ok (.iadd, 1) := by decide +kernel
theorem dX3_read_73 : decode cX3_read 73 = .ok (.putfield 189, 3) := by decide +kernel
theorem dX3_read_76 : decode cX3_read 76 = .ok (.iconst 0, 1) := by decide +kernel
theorem dX3_read_77 : decode cX3_read 77 = .ok (.ireturn, 1) := by decide +kernel
set_option maxRecDepth 20000 in
theorem ggX3_write_X3_isPage : GoodIn wsX3_write wsX3_isPage := goodIn_r _ [9, 10, 83, 84, 85, 86, 87, 88, 89, 90, 91, 92, 93, 94, 95, 96, 97, 98, 99, 100, 101, 102] (by decide +kernel) (by decide +kernel)
set_option maxRecDepth 20000 in
theorem gX3_write_X3_isPage : GoodIn wsX3_write (wsV RX3 179 RX3 yX3_isPage wsX3_isPage) := goodIn_app (goodIn_of _ (by decide +kernel)) ggX3_write_X3_isPage
set_option maxRecDepth 20000 in
theorem ggX3_write_X3_faultOf : GoodIn wsX3_write wsX3_faultOf := goodIn_r _ [14, 2, 15, 16, 17, 18, 19, 8, 20, 10, 21, 22, 23, 24, 25, 26, 27, 28, 29, 30, 31, 32, 33, 34, 35, 36, 37, 38, 39, 40, 41, 42, 43, 44, 45, 46, 47, 48, 49, 50, 51, 52, 53, 54, 55, 56, 57, 58, 59, 60, 61, 62, 63, 64, 65, 66, 67, 68, 69, 70, 71, 72, 73, 74, 83, 84, 85, 86, 87, 88, 89, 90, 91, 92, 93, 94, 95, 96, 97, 98, 99, 100, 101, 102] (by decide +kernel) (by decide +kernel)
set_option maxRecDepth 20000 in
theorem gX3_write_X3_faultOf : GoodIn wsX3_write (wsV RX3 183 RX3 yX3_faultOf wsX3_faultOf) := goodIn_app (goodIn_of _ (by decide +kernel)) ggX3_write_X3_faultOf
set_option maxRecDepth 20000 in
theorem ggX3_write_X3_levelsOf : GoodIn wsX3_write wsX3_levelsOf := goodIn_r _ [34, 35, 36, 37, 8, 38, 10, 83, 84, 85, 86, 87, 88, 89, 90, 91, 92, 93, 94, 95, 96, 97, 98, 99, 100, 101, 102] (by decide +kernel) (by decide +kernel)
set_option maxRecDepth 20000 in
theorem gX3_write_X3_levelsOf : GoodIn wsX3_write (wsV RX3 125 RX3 yX3_levelsOf wsX3_levelsOf) := goodIn_app (goodIn_of _ (by decide +kernel)) ggX3_write_X3_levelsOf
set_option maxRecDepth 20000 in
theorem ggX3_write_X3_nodeOn : GoodIn wsX3_write wsX3_nodeOn := goodIn_r _ [66] (by decide +kernel) (by decide +kernel)
set_option maxRecDepth 20000 in
theorem gX3_write_X3_nodeOn : GoodIn wsX3_write (wsV RX3 172 RX3 yX3_nodeOn wsX3_nodeOn) := goodIn_app (goodIn_of _ (by decide +kernel)) ggX3_write_X3_nodeOn
set_option maxRecDepth 20000 in
theorem ggX3_write_X3_putNode : GoodIn wsX3_write wsX3_putNode := goodIn_r _ [78, 2, 16, 71, 72, 73, 8, 74, 25, 26, 27, 28, 29, 30, 35, 36, 37, 38, 10, 39, 40, 41, 42, 43, 44, 45, 46, 47, 48, 49, 50, 51, 52, 53, 54, 55, 56, 57, 58, 59, 60, 61, 62, 83, 84, 85, 86, 87, 88, 89, 90, 91, 92, 93, 94, 95, 96, 97, 98, 99, 100, 101, 102] (by decide +kernel) (by decide +kernel)
set_option maxRecDepth 20000 in
theorem gX3_write_X3_putNode : GoodIn wsX3_write (wsV RX3 192 RX3 yX3_putNode wsX3_putNode) := goodIn_app (goodIn_of _ (by decide +kernel)) ggX3_write_X3_putNode
set_option maxRecDepth 20000 in
theorem ggX3_write_X3_putRoot : GoodIn wsX3_write wsX3_putRoot := goodIn_r _ [82, 15, 16, 21, 22, 23, 8, 24, 25, 2, 26, 27, 28, 29, 30, 31, 32, 33, 34, 35, 36, 37, 38, 10, 39, 40, 41, 42, 43, 44, 45, 46, 47, 48, 49, 50, 51, 52, 53, 54, 55, 56, 57, 58, 59, 60, 61, 62, 83, 84, 85, 86, 87, 88, 89, 90, 91, 92, 93, 94, 95, 96, 97, 98, 99, 100, 101, 102] (by decide +kernel) (by decide +kernel)
set_option maxRecDepth 20000 in
theorem gX3_write_X3_putRoot : GoodIn wsX3_write (wsV RX3 195 RX3 yX3_putRoot wsX3_putRoot) := goodIn_app (goodIn_of _ (by decide +kernel)) ggX3_write_X3_putRoot
theorem dX3_write_0 : decode cX3_write 0 = .ok (.aload_n 0, 1) := by decide +kernel
theorem dX3_write_1 : decode cX3_write 1 = .ok (.iload_n 1, 1) := by decide +kernel
theorem dX3_write_2 : decode cX3_write 2 = .ok (.invokevirtual 179, 3) := by decide +kernel
theorem dX3_write_5 : decode cX3_write 5 = .ok (.ifCond .ne 5, 3) := by decide +kernel
theorem dX3_write_8 : decode cX3_write 8 = .ok (.iconst (-1), 1) := by decide +kernel
theorem dX3_write_9 : decode cX3_write 9 = .ok (.ireturn, 1) := by decide +kernel
theorem dX3_write_10 : decode cX3_write 10 = .ok (.aload_n 0, 1) := by decide +kernel
theorem dX3_write_11 : decode cX3_write 11 = .ok (.iload_n 1, 1) := by decide +kernel
