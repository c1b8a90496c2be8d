theorem dX12_dryAll_0 : decode cX12_dryAll 0 = .ok (.iconst 0, 1) := by decide +kernel
theorem dX12_dryAll_1 : decode cX12_dryAll 1 = .ok (.istore_n 1, 1) := by decide +kernel
theorem dX12_dryAll_2 : decode cX12_dryAll 2 = .ok (.iload_n 1, 1) := by decide +kernel
theorem dX12_dryAll_3 : decode cX12_dryAll 3 = .ok (.aload_n 0, 1) := by decide +kernel
theorem dX12_dryAll_4 : decode cX12_dryAll 4 = .ok (.getfield 7, 3) := by decide +kernel
theorem dX12_dryAll_7 : decode cX12_dryAll 7 = .ok (.iconst 0, 1) := by decide +kernel
theorem dX12_dryAll_8 : decode cX12_dryAll 8 = .ok (.iaload, 1) := by decide +kernel
theorem dX12_dryAll_9 : decode cX12_dryAll 9 = .ok (.if_icmp .ge 75, 3) := by decide +kernel
theorem dX12_dryAll_84 : decode cX12_dryAll 84 = .ok (.iconst 0, 1) := by decide +kernel
theorem dX12_dryAll_85 : decode cX12_dryAll 85 = .ok (.istore_n 1, 1) := by decide +kernel
theorem dX12_dryAll_86 : decode cX12_dryAll 86 = .ok (.iload_n 1, 1) := by decide +kernel
theorem dX12_dryAll_87 : decode cX12_dryAll 87 = .ok (.aload_n 0, 1) := by decide +kernel
theorem dX12_dryAll_88 : decode cX12_dryAll 88 = .ok (.getfield 7, 3) := by decide +kernel
theorem dX12_dryAll_91 : decode cX12_dryAll 91 = .ok (.iconst 0, 1) := by decide +kernel
theorem dX12_dryAll_92 : decode cX12_dryAll 92 = .ok (.iaload, 1) := by decide +kernel
theorem dX12_dryAll_93 : decode cX12_dryAll 93 = .ok (.if_icmp .ge 63, 3) := by decide +kernel
theorem dX12_dryAll_156 : decode cX12_dryAll 156 = .ok (.return_, 1) := by decide +kernel
theorem dX12_fieldOf_0 : decode cX12_fieldOf 0 = .ok (.aload_n 0, 1) := by decide +kernel
theorem dX12_fieldOf_1 : decode cX12_fieldOf 1 = .ok (.getfield 7, 3) := by decide +kernel
theorem dX12_fieldOf_4 : decode cX12_fieldOf 4 = .ok (.bipush 16, 2) := by decide +kernel
theorem dX12_fieldOf_6 : decode cX12_fieldOf 6 = .ok (.bipush 7, 2) := by decide +kernel
theorem dX12_fieldOf_8 : decode cX12_fieldOf 8 = .ok (.iload_n 1, 1) := by decide +kernel
theorem dX12_fieldOf_9 : decode cX12_fieldOf 9 = .ok (.imul, 1) := by decide +kernel
theorem dX12_fieldOf_10 : decode cX12_fieldOf 10 = .ok (.iadd, 1) := by decide +kernel
theorem dX12_fieldOf_11 : decode cX12_fieldOf 11 = .ok (.iload_n 2, 1) := by decide +kernel
theorem dX12_fieldOf_12 : decode cX12_fieldOf 12 = .ok (.iadd, 1) := by decide +kernel
theorem dX12_fieldOf_13 : decode cX12_fieldOf 13 = .ok (.iaload, 1) := by decide +kernel
theorem dX12_fieldOf_14 : decode cX12_fieldOf 14 = .ok (.ireturn, 1) := by decide +kernel
theorem dX12_get_0 : decode cX12_get 0 = .ok (.aload_n 0, 1) := by decide +kernel
theorem dX12_get_1 : decode cX12_get 1 = .ok (.getfield 7, 3) := by decide +kernel
theorem dX12_get_4 : decode cX12_get 4 = .ok (.bipush 58, 2) := by decide +kernel
theorem dX12_get_6 : decode cX12_get 6 = .ok (.bipush 7, 2) := by decide +kernel
theorem dX12_get_8 : decode cX12_get 8 = .ok (.iload_n 1, 1) := by decide +kernel
theorem dX12_get_9 : decode cX12_get 9 = .ok (.imul, 1) := by decide +kernel
theorem dX12_get_10 : decode cX12_get 10 = .ok (.iadd, 1) := by decide +kernel
theorem dX12_get_11 : decode cX12_get 11 = .ok (.iload_n 2, 1) := by decide +kernel
theorem dX12_get_12 : decode cX12_get 12 = .ok (.iadd, 1) := by decide +kernel
theorem dX12_get_13 : decode cX12_get 13 = .ok (.iaload, 1) := by decide +kernel
theorem dX12_get_14 : decode cX12_get 14 = .ok (.ireturn, 1) := by decide +kernel
theorem dX12_hour_0 : decode cX12_hour 0 = .ok (.iload_n 1, 1) := by decide +kernel
theorem dX12_hour_1 : decode cX12_hour 1 = .ok (.iconst 1, 1) := by decide +kernel
theorem dX12_hour_2 : decode cX12_hour 2 = .ok (.bipush 30, 2) := by decide +kernel
theorem dX12_hour_4 : decode cX12_hour 4 = .ok (.invokestatic 113, 3) := by decide +kernel
theorem dX12_hour_7 : decode cX12_hour 7 = .ok (.ifCond .eq 17, 3) := by decide +kernel
theorem dX12_hour_10 : decode cX12_hour 10 = .ok (.aload_n 0, 1) := by decide +kernel
theorem dX12_hour_11 : decode cX12_hour 11 = .ok (.getfield 7, 3) := by decide +kernel
theorem dX12_hour_14 : decode cX12_hour 14 = .ok (.iconst 2, 1) := by decide +kernel
theorem dX12_hour_15 : decode cX12_hour 15 = .ok (.iaload, 1) := by decide +kernel
theorem dX12_hour_16 : decode cX12_hour 16 = .ok (.iload_n 1, 1) := by decide +kernel
theorem dX12_hour_17 : decode cX12_hour 17 = .ok (.iadd, 1) := by decide +kernel
theorem dX12_hour_18 : decode cX12_hour 18 = .ok (.sipush 999, 3) := by decide +kernel
theorem dX12_hour_21 : decode cX12_hour 21 = .ok (.if_icmp .le 5, 3) := by decide +kernel
theorem dX12_hour_24 : decode cX12_hour 24 = .ok (.iconst (-1), 1) := by decide +kernel
theorem dX12_hour_25 : decode cX12_hour 25 = .ok (.ireturn, 1) := by decide +kernel
theorem dX12_hour_26 : decode cX12_hour 26 = .ok (.iconst 0, 1) := by decide +kernel
theorem dX12_hour_27 : decode cX12_hour 27 = .ok (.istore_n 2, 1) := by decide +kernel
theorem dX12_hour_28 : decode cX12_hour 28 = .ok (.iconst 0, 1) := by decide +kernel
theorem dX12_hour_29 : decode cX12_hour 29 = .ok (.istore_n 3, 1) := by decide +kernel
theorem dX12_hour_30 : decode cX12_hour 30 = .ok (.iload_n 3, 1) := by decide +kernel
theorem dX12_hour_31 : decode cX12_hour 31 = .ok (.iload_n 1, 1) := by decide +kernel
theorem dX12_hour_32 : decode cX12_hour 32 = .ok (.if_icmp .ge 16, 3) := by decide +kernel
theorem dX12_hour_35 : decode cX12_hour 35 = .ok (.iload_n 2, 1) := by decide +kernel
theorem dX12_hour_36 : decode cX12_hour 36 = .ok (.aload_n 0, 1) := by decide +kernel
theorem dX12_hour_37 : decode cX12_hour 37 = .ok (.invokevirtual 394, 3) := by decide +kernel
theorem dX12_hour_40 : decode cX12_hour 40 = .ok (.iadd, 1) := by decide +kernel
theorem dX12_hour_41 : decode cX12_hour 41 = .ok (.istore_n 2, 1) := by decide +kernel
theorem dX12_hour_42 : decode cX12_hour 42 = .ok (.iinc 3 1, 3) := by decide +kernel
theorem dX12_hour_45 : decode cX12_hour 45 = .ok (.goto (-15), 3) := by decide +kernel
theorem dX12_hour_48 : decode cX12_hour 48 = .ok (.iload_n 2, 1) := by decide +kernel
theorem dX12_hour_49 : decode cX12_hour 49 = .ok (.ireturn, 1) := by decide +kernel
theorem dX12_keep_0 : decode cX12_keep 0 = .ok (.aload_n 0, 1) := by decide +kernel
theorem dX12_keep_1 : decode cX12_keep 1 = .ok (.getfield 7, 3) := by decide +kernel
theorem dX12_keep_4 : decode cX12_keep 4 = .ok (.bipush 9, 2) := by decide +kernel
theorem dX12_keep_6 : decode cX12_keep 6 = .ok (.iaload, 1) := by decide +kernel
theorem dX12_keep_7 : decode cX12_keep 7 = .ok (.bipush 30, 2) := by decide +kernel
theorem dX12_keep_9 : decode cX12_keep 9 = .ok (.if_icmp .ne 49, 3) := by decide +kernel
theorem dX12_keep_58 : decode cX12_keep 58 = .ok (.sipush 186, 3) := by decide +kernel
theorem dX12_keep_61 : decode cX12_keep 61 = .ok (.bipush 52, 2) := by decide +kernel
theorem dX12_keep_63 : decode cX12_keep 63 = .ok (.aload_n 0, 1) := by decide +kernel
theorem dX12_keep_64 : decode cX12_keep 64 = .ok (.getfield 7, 3) := by decide +kernel
theorem dX12_keep_67 : decode cX12_keep 67 = .ok (.bipush 9, 2) := by decide +kernel
theorem dX12_keep_69 : decode cX12_keep 69 = .ok (.iaload, 1) := by decide +kernel
theorem dX12_keep_70 : decode cX12_keep 70 = .ok (.imul, 1) := by decide +kernel
theorem dX12_keep_71 : decode cX12_keep 71 = .ok (.iadd, 1) := by decide +kernel
theorem dX12_keep_72 : decode cX12_keep 72 = .ok (.istore_n 1, 1) := by decide +kernel
theorem dX12_keep_73 : decode cX12_keep 73 = .ok (.aload_n 0, 1) := by decide +kernel
theorem dX12_keep_74 : decode cX12_keep 74 = .ok (.getfield 7, 3) := by decide +kernel
theorem dX12_keep_77 : decode cX12_keep 77 = .ok (.iload_n 1, 1) := by decide +kernel
theorem dX12_keep_78 : decode cX12_keep 78 = .ok (.aload_n 0, 1) := by decide +kernel
theorem dX12_keep_79 : decode cX12_keep 79 = .ok (.getfield 7, 3) := by decide +kernel
theorem dX12_keep_82 : decode cX12_keep 82 = .ok (.iconst 0, 1) := by decide +kernel
theorem dX12_keep_83 : decode cX12_keep 83 = .ok (.iaload, 1) := by decide +kernel
theorem dX12_keep_84 : decode cX12_keep 84 = .ok (.iastore, 1) := by decide +kernel
theorem dX12_keep_85 : decode cX12_keep 85 = .ok (.aload_n 0, 1) := by decide +kernel
theorem dX12_keep_86 : decode cX12_keep 86 = .ok (.getfield 7, 3) := by decide +kernel
theorem dX12_keep_89 : decode cX12_keep 89 = .ok (.iload_n 1, 1) := by decide +kernel
theorem dX12_keep_90 : decode cX12_keep 90 = .ok (.iconst 1, 1) := by decide +kernel
theorem dX12_keep_91 : decode cX12_keep 91 = .ok (.iadd, 1) := by decide +kernel
theorem dX12_keep_92 : decode cX12_keep 92 = .ok (.aload_n 0, 1) := by decide +kernel
theorem dX12_keep_93 : decode cX12_keep 93 = .ok (.getfield 7, 3) := by decide +kernel
theorem dX12_keep_96 : decode cX12_keep 96 = .ok (.iconst 1, 1) := by decide +kernel
theorem dX12_keep_97 : decode cX12_keep 97 = .ok (.iaload, 1) := by decide +kernel
theorem dX12_keep_98 : decode cX12_keep 98 = .ok (.iastore, 1) := by decide +kernel
theorem dX12_keep_99 : decode cX12_keep 99 = .ok (.iconst 0, 1) := by decide +kernel
theorem dX12_keep_100 : decode cX12_keep 100 = .ok (.istore_n 2, 1) := by decide +kernel
theorem dX12_keep_101 : decode cX12_keep 101 = .ok (.iload_n 2, 1) := by decide +kernel
theorem dX12_keep_102 : decode cX12_keep 102 = .ok (.iconst 5, 1) := by decide +kernel
theorem dX12_keep_103 : decode cX12_keep 103 = .ok (.if_icmp .ge 27, 3) := by decide +kernel
theorem dX12_keep_106 : decode cX12_keep 106 = .ok (.aload_n 0, 1) := by decide +kernel
theorem dX12_keep_107 : decode cX12_keep 107 = .ok (.getfield 7, 3) := by decide +kernel
theorem dX12_keep_110 : decode cX12_keep 110 = .ok (.iload_n 1, 1) := by decide +kernel
theorem dX12_keep_111 : decode cX12_keep 111 = .ok (.iconst 2, 1) := by decide +kernel
theorem dX12_keep_112 : decode cX12_keep 112 = .ok (.iadd, 1) := by decide +kernel
theorem dX12_keep_113 : decode cX12_keep 113 = .ok (.iload_n 2, 1) := by decide +kernel
theorem dX12_keep_114 : decode cX12_keep 114 = .ok (.iadd, 1) := by decide +kernel
theorem dX12_keep_115 : decode cX12_keep 115 = .ok (.aload_n 0, 1) := by decide +kernel
theorem dX12_keep_116 : decode cX12_keep 116 = .ok (.getfield 7, 3) := by decide +kernel
theorem dX12_keep_119 : decode cX12_keep 119 = .ok (.iconst 2, 1) := by decide +kernel
theorem dX12_keep_120 : decode cX12_keep 120 = .ok (.iload_n 2, 1) := by decide +kernel
theorem dX12_keep_121 : decode cX12_keep 121 = .ok (.iadd, 1) := by decide +kernel
theorem dX12_keep_122 : decode cX12_keep 122 = .ok (.iaload, 1) := by decide +kernel
theorem dX12_keep_123 : decode cX12_keep 123 = .ok (.iastore, 1) := by decide +kernel
theorem dX12_keep_124 : decode cX12_keep 124 = .ok (.iinc 2 1, 3) := by decide +kernel
theorem dX12_keep_127 : decode cX12_keep 127 = .ok (.goto (-26), 3) := by decide +kernel
theorem dX12_keep_130 : decode cX12_keep 130 = .ok (.aload_n 0, 1) := by decide +kernel
theorem dX12_keep_131 : decode cX12_keep 131 = .ok (.getfield 7, 3) := by decide +kernel
theorem dX12_keep_134 : decode cX12_keep 134 = .ok (.iload_n 1, 1) := by decide +kernel
theorem dX12_keep_135 : decode cX12_keep 135 = .ok (.bipush 7, 2) := by decide +kernel
theorem dX12_keep_137 : decode cX12_keep 137 = .ok (.iadd, 1) := by decide +kernel
theorem dX12_keep_138 : decode cX12_keep 138 = .ok (.aload_n 0, 1) := by decide +kernel
theorem dX12_keep_139 : decode cX12_keep 139 = .ok (.getfield 7, 3) := by decide +kernel
theorem dX12_keep_142 : decode cX12_keep 142 = .ok (.bipush 13, 2) := by decide +kernel
theorem dX12_keep_144 : decode cX12_keep 144 = .ok (.iaload, 1) := by decide +kernel
theorem dX12_keep_145 : decode cX12_keep 145 = .ok (.iastore, 1) := by decide +kernel
theorem dX12_keep_146 : decode cX12_keep 146 = .ok (.iconst 0, 1) := by decide +kernel
theorem dX12_keep_147 : decode cX12_keep 147 = .ok (.istore_n 2, 1) := by decide +kernel
theorem dX12_keep_148 : decode cX12_keep 148 = .ok (.iload_n 2, 1) := by decide +kernel
theorem dX12_keep_149 : decode cX12_keep 149 = .ok (.bipush 6, 2) := by decide +kernel
theorem dX12_keep_151 : decode cX12_keep 151 = .ok (.if_icmp .ge 45, 3) := by decide +kernel
theorem dX12_keep_154 : decode cX12_keep 154 = .ok (.iconst 0, 1) := by decide +kernel
theorem dX12_keep_155 : decode cX12_keep 155 = .ok (.istore_n 3, 1) := by decide +kernel
theorem dX12_keep_156 : decode cX12_keep 156 = .ok (.iload_n 3, 1) := by decide +kernel
theorem dX12_keep_157 : decode cX12_keep 157 = .ok (.iconst 3, 1) := by decide +kernel
theorem dX12_keep_158 : decode cX12_keep 158 = .ok (.if_icmp .ge 32, 3) := by decide +kernel
theorem dX12_keep_161 : decode cX12_keep 161 = .ok (.aload_n 0, 1) := by decide +kernel
theorem dX12_keep_162 : decode cX12_keep 162 = .ok (.getfield 7, 3) := by decide +kernel
theorem dX12_keep_165 : decode cX12_keep 165 = .ok (.iload_n 1, 1) := by decide +kernel
theorem dX12_keep_166 : decode cX12_keep 166 = .ok (.bipush 8, 2) := by decide +kernel
theorem dX12_keep_168 : decode cX12_keep 168 = .ok (.iadd, 1) := by decide +kernel
theorem dX12_keep_169 : decode cX12_keep 169 = .ok (.iconst 3, 1) := by decide +kernel
theorem dX12_keep_170 : decode cX12_keep 170 = .ok (.iload_n 2, 1) := by decide +kernel
theorem dX12_keep_171 : decode cX12_keep 171 = .ok (.imul, 1) := by decide +kernel
theorem dX12_keep_172 : decode cX12_keep 172 = .ok (.iadd, 1) := by decide +kernel
theorem dX12_keep_173 : decode cX12_keep 173 = .ok (.iload_n 3, 1) := by decide +kernel
theorem dX12_keep_174 : decode cX12_keep 174 = .ok (.iadd, 1) := by decide +kernel
theorem dX12_keep_175 : decode cX12_keep 175 = .ok (.aload_n 0, 1) := by decide +kernel
theorem dX12_keep_176 : decode cX12_keep 176 = .ok (.iload_n 2, 1) := by decide +kernel
theorem dX12_keep_177 : decode cX12_keep 177 = .ok (.iconst 3, 1) := by decide +kernel
theorem dX12_keep_178 : decode cX12_keep 178 = .ok (.iload_n 3, 1) := by decide +kernel
theorem dX12_keep_179 : decode cX12_keep 179 = .ok (.iadd, 1) := by decide +kernel
theorem dX12_keep_180 : decode cX12_keep 180 = .ok (.invokevirtual 121, 3) := by decide +kernel
theorem dX12_keep_183 : decode cX12_keep 183 = .ok (.iastore, 1) := by decide +kernel
theorem dX12_keep_184 : decode cX12_keep 184 = .ok (.iinc 3 1, 3) := by decide +kernel
theorem dX12_keep_187 : decode cX12_keep 187 = .ok (.goto (-31), 3) := by decide +kernel
theorem dX12_keep_190 : decode cX12_keep 190 = .ok (.iinc 2 1, 3) := by decide +kernel
theorem dX12_keep_193 : decode cX12_keep 193 = .ok (.goto (-45), 3) := by decide +kernel
theorem dX12_keep_196 : decode cX12_keep 196 = .ok (.iconst 0, 1) := by decide +kernel
theorem dX12_keep_197 : decode cX12_keep 197 = .ok (.istore_n 2, 1) := by decide +kernel
theorem dX12_keep_198 : decode cX12_keep 198 = .ok (.iload_n 2, 1) := by decide +kernel
theorem dX12_keep_199 : decode cX12_keep 199 = .ok (.bipush 8, 2) := by decide +kernel
theorem dX12_keep_201 : decode cX12_keep 201 = .ok (.if_icmp .ge 45, 3) := by decide +kernel
theorem dX12_keep_204 : decode cX12_keep 204 = .ok (.iconst 0, 1) := by decide +kernel
theorem dX12_keep_205 : decode cX12_keep 205 = .ok (.istore_n 3, 1) := by decide +kernel
theorem dX12_keep_206 : decode cX12_keep 206 = .ok (.iload_n 3, 1) := by decide +kernel
theorem dX12_keep_207 : decode cX12_keep 207 = .ok (.iconst 3, 1) := by decide +kernel
theorem dX12_keep_208 : decode cX12_keep 208 = .ok (.if_icmp .ge 32, 3) := by decide +kernel
theorem dX12_keep_211 : decode cX12_keep 211 = .ok (.aload_n 0, 1) := by decide +kernel
theorem dX12_keep_212 : decode cX12_keep 212 = .ok (.getfield 7, 3) := by decide +kernel
theorem dX12_keep_215 : decode cX12_keep 215 = .ok (.iload_n 1, 1) := by decide +kernel
theorem dX12_keep_216 : decode cX12_keep 216 = .ok (.bipush 26, 2) := by decide +kernel
theorem dX12_keep_218 : decode cX12_keep 218 = .ok (.iadd, 1) := by decide +kernel
theorem dX12_keep_219 : decode cX12_keep 219 = .ok (.iconst 3, 1) := by decide +kernel
theorem dX12_keep_220 : decode cX12_keep 220 = .ok (.iload_n 2, 1) := by decide +kernel
theorem dX12_keep_221 : decode cX12_keep 221 = .ok (.imul, 1) := by decide +kernel
theorem dX12_keep_222 : decode cX12_keep 222 = .ok (.iadd, 1) := by decide +kernel
theorem dX12_keep_223 : decode cX12_keep 223 = .ok (.iload_n 3, 1) := by decide +kernel
theorem dX12_keep_224 : decode cX12_keep 224 = .ok (.iadd, 1) := by decide +kernel
theorem dX12_keep_225 : decode cX12_keep 225 = .ok (.aload_n 0, 1) := by decide +kernel
theorem dX12_keep_226 : decode cX12_keep 226 = .ok (.iload_n 2, 1) := by decide +kernel
theorem dX12_keep_227 : decode cX12_keep 227 = .ok (.iconst 2, 1) := by decide +kernel
theorem dX12_keep_228 : decode cX12_keep 228 = .ok (.iload_n 3, 1) := by decide +kernel
theorem dX12_keep_229 : decode cX12_keep 229 = .ok (.iadd, 1) := by decide +kernel
theorem dX12_keep_230 : decode cX12_keep 230 = .ok (.invokevirtual 319, 3) := by decide +kernel
theorem dX12_keep_233 : decode cX12_keep 233 = .ok (.iastore, 1) := by decide +kernel
theorem dX12_keep_234 : decode cX12_keep 234 = .ok (.iinc 3 1, 3) := by decide +kernel
theorem dX12_keep_237 : decode cX12_keep 237 = .ok (.goto (-31), 3) := by decide +kernel
theorem dX12_keep_240 : decode cX12_keep 240 = .ok (.iinc 2 1, 3) := by decide +kernel
theorem dX12_keep_243 : decode cX12_keep 243 = .ok (.goto (-45), 3) := by decide +kernel
theorem dX12_keep_246 : decode cX12_keep 246 = .ok (.aload_n 0, 1) := by decide +kernel
theorem dX12_keep_247 : decode cX12_keep 247 = .ok (.getfield 7, 3) := by decide +kernel
theorem dX12_keep_250 : decode cX12_keep 250 = .ok (.bipush 9, 2) := by decide +kernel
theorem dX12_keep_252 : decode cX12_keep 252 = .ok (.dup2, 1) := by decide +kernel
theorem dX12_keep_253 : decode cX12_keep 253 = .ok (.iaload, 1) := by decide +kernel
theorem dX12_keep_254 : decode cX12_keep 254 = .ok (.iconst 1, 1) := by decide +kernel
theorem dX12_keep_255 : decode cX12_keep 255 = .ok (.iadd, 1) := by decide +kernel
theorem dX12_keep_256 : decode cX12_keep 256 = .ok (.iastore, 1) := by decide +kernel
theorem dX12_keep_257 : decode cX12_keep 257 = .ok (.return_, 1) := by decide +kernel
theorem dX12_pass_0 : decode cX12_pass 0 = .ok (.aload_n 0, 1) := by decide +kernel
theorem dX12_pass_1 : decode cX12_pass 1 = .ok (.iconst 1, 1) := by decide +kernel
theorem dX12_pass_2 : decode cX12_pass 2 = .ok (.putfield 367, 3) := by decide +kernel
theorem dX12_pass_5 : decode cX12_pass 5 = .ok (.aload_n 0, 1) := by decide +kernel
theorem dX12_pass_6 : decode cX12_pass 6 = .ok (.invokevirtual 382, 3) := by decide +kernel
theorem dX12_pass_9 : decode cX12_pass 9 = .ok (.istore_n 1, 1) := by decide +kernel
theorem dX12_pass_10 : decode cX12_pass 10 = .ok (.aload_n 0, 1) := by decide +kernel
theorem dX12_pass_11 : decode cX12_pass 11 = .ok (.invokevirtual 385, 3) := by decide +kernel
theorem dX12_pass_14 : decode cX12_pass 14 = .ok (.iconst 0, 1) := by decide +kernel
theorem dX12_pass_15 : decode cX12_pass 15 = .ok (.istore_n 2, 1) := by decide +kernel
theorem dX12_pass_16 : decode cX12_pass 16 = .ok (.iload_n 2, 1) := by decide +kernel
theorem dX12_pass_17 : decode cX12_pass 17 = .ok (.bipush 8, 2) := by decide +kernel
theorem dX12_pass_19 : decode cX12_pass 19 = .ok (.if_icmp .ge 49, 3) := by decide +kernel
theorem dX12_pass_22 : decode cX12_pass 22 = .ok (.aload_n 0, 1) := by decide +kernel
theorem dX12_pass_23 : decode cX12_pass 23 = .ok (.getfield 7, 3) := by decide +kernel
theorem dX12_pass_26 : decode cX12_pass 26 = .ok (.sipush 9938, 3) := by decide +kernel
theorem dX12_pass_29 : decode cX12_pass 29 = .ok (.bipush 8, 2) := by decide +kernel
theorem dX12_pass_31 : decode cX12_pass 31 = .ok (.aload_n 0, 1) := by decide +kernel
theorem dX12_pass_32 : decode cX12_pass 32 = .ok (.getfield 7, 3) := by decide +kernel
theorem dX12_pass_35 : decode cX12_pass 35 = .ok (.iconst 2, 1) := by decide +kernel
theorem dX12_pass_36 : decode cX12_pass 36 = .ok (.iaload, 1) := by decide +kernel
theorem dX12_pass_37 : decode cX12_pass 37 = .ok (.imul, 1) := by decide +kernel
theorem dX12_pass_38 : decode cX12_pass 38 = .ok (.iadd, 1) := by decide +kernel
theorem dX12_pass_39 : decode cX12_pass 39 = .ok (.iload_n 2, 1) := by decide +kernel
theorem dX12_pass_40 : decode cX12_pass 40 = .ok (.iadd, 1) := by decide +kernel
theorem dX12_pass_41 : decode cX12_pass 41 = .ok (.iload_n 2, 1) := by decide +kernel
theorem dX12_pass_42 : decode cX12_pass 42 = .ok (.aload_n 0, 1) := by decide +kernel
theorem dX12_pass_43 : decode cX12_pass 43 = .ok (.getfield 7, 3) := by decide +kernel
theorem dX12_pass_46 : decode cX12_pass 46 = .ok (.iconst 1, 1) := by decide +kernel
theorem dX12_pass_47 : decode cX12_pass 47 = .ok (.iaload, 1) := by decide +kernel
theorem dX12_pass_48 : decode cX12_pass 48 = .ok (.if_icmp .ge 12, 3) := by decide +kernel
theorem dX12_pass_60 : decode cX12_pass 60 = .ok (.iconst (-1), 1) := by decide +kernel
theorem dX12_pass_61 : decode cX12_pass 61 = .ok (.iastore, 1) := by decide +kernel
theorem dX12_pass_62 : decode cX12_pass 62 = .ok (.iinc 2 1, 3) := by decide +kernel
theorem dX12_pass_65 : decode cX12_pass 65 = .ok (.goto (-49), 3) := by decide +kernel
theorem dX12_pass_68 : decode cX12_pass 68 = .ok (.aload_n 0, 1) := by decide +kernel
theorem dX12_pass_69 : decode cX12_pass 69 = .ok (.getfield 7, 3) := by decide +kernel
theorem dX12_pass_72 : decode cX12_pass 72 = .ok (.iconst 2, 1) := by decide +kernel
theorem dX12_pass_73 : decode cX12_pass 73 = .ok (.dup2, 1) := by decide +kernel
theorem dX12_pass_74 : decode cX12_pass 74 = .ok (.iaload, 1) := by decide +kernel
theorem dX12_pass_75 : decode cX12_pass 75 = .ok (.iconst 1, 1) := by decide +kernel
theorem dX12_pass_76 : decode cX12_pass 76 = .ok (.iadd, 1) := by decide +kernel
theorem dX12_pass_77 : decode cX12_pass 77 = .ok (.iastore, 1) := by decide +kernel
theorem dX12_pass_78 : decode cX12_pass 78 = .ok (.iload_n 1, 1) := by decide +kernel
theorem dX12_pass_79 : decode cX12_pass 79 = .ok (.ireturn, 1) := by decide +kernel
theorem dX12_passStep_0 : decode cX12_passStep 0 = .ok (.aload_n 0, 1) := by decide +kernel
theorem dX12_passStep_1 : decode cX12_passStep 1 = .ok (.getfield 7, 3) := by decide +kernel
theorem dX12_passStep_4 : decode cX12_passStep 4 = .ok (.iconst 2, 1) := by decide +kernel
theorem dX12_passStep_5 : decode cX12_passStep 5 = .ok (.iaload, 1) := by decide +kernel
theorem dX12_passStep_6 : decode cX12_passStep 6 = .ok (.sipush 999, 3) := by decide +kernel
theorem dX12_passStep_9 : decode cX12_passStep 9 = .ok (.if_icmp .ne 5, 3) := by decide +kernel
theorem dX12_passStep_14 : decode cX12_passStep 14 = .ok (.aload_n 0, 1) := by decide +kernel
theorem dX12_passStep_15 : decode cX12_passStep 15 = .ok (.invokevirtual 388, 3) := by decide +kernel
theorem dX12_passStep_18 : decode cX12_passStep 18 = .ok (.aload_n 0, 1) := by decide +kernel
theorem dX12_passStep_19 : decode cX12_passStep 19 = .ok (.invokevirtual 391, 3) := by decide +kernel
theorem dX12_passStep_22 : decode cX12_passStep 22 = .ok (.ireturn, 1) := by decide +kernel
theorem dX12_rainAll_0 : decode cX12_rainAll 0 = .ok (.aload_n 0, 1) := by decide +kernel
theorem dX12_rainAll_1 : decode cX12_rainAll 1 = .ok (.aload_n 0, 1) := by decide +kernel
theorem dX12_rainAll_2 : decode cX12_rainAll 2 = .ok (.getfield 367, 3) := by decide +kernel
theorem dX12_rainAll_5 : decode cX12_rainAll 5 = .ok (.ifCond .eq 12, 3) := by decide +kernel
theorem dX12_rainAll_8 : decode cX12_rainAll 8 = .ok (.aload_n 0, 1) := by decide +kernel
theorem dX12_rainAll_9 : decode cX12_rainAll 9 = .ok (.getfield 7, 3) := by decide +kernel
theorem dX12_rainAll_12 : decode cX12_rainAll 12 = .ok (.iconst 2, 1) := by decide +kernel
theorem dX12_rainAll_13 : decode cX12_rainAll 13 = .ok (.iaload, 1) := by decide +kernel
theorem dX12_rainAll_14 : decode cX12_rainAll 14 = .ok (.goto 7, 3) := by decide +kernel
theorem dX12_rainAll_17 : decode cX12_rainAll 17 = .ok (.aload_n 0, 1) := by decide +kernel
theorem dX12_rainAll_18 : decode cX12_rainAll 18 = .ok (.getfield 351, 3) := by decide +kernel
theorem dX12_rainAll_21 : decode cX12_rainAll 21 = .ok (.putfield 351, 3) := by decide +kernel
theorem dX12_rainAll_24 : decode cX12_rainAll 24 = .ok (.iconst 0, 1) := by decide +kernel
theorem dX12_rainAll_25 : decode cX12_rainAll 25 = .ok (.istore_n 1, 1) := by decide +kernel
theorem dX12_rainAll_26 : decode cX12_rainAll 26 = .ok (.iload_n 1, 1) := by decide +kernel
theorem dX12_rainAll_27 : decode cX12_rainAll 27 = .ok (.aload_n 0, 1) := by decide +kernel
theorem dX12_rainAll_28 : decode cX12_rainAll 28 = .ok (.getfield 7, 3) := by decide +kernel
theorem dX12_rainAll_31 : decode cX12_rainAll 31 = .ok (.iconst 1, 1) := by decide +kernel
theorem dX12_rainAll_32 : decode cX12_rainAll 32 = .ok (.iaload, 1) := by decide +kernel
theorem dX12_rainAll_33 : decode cX12_rainAll 33 = .ok (.if_icmp .ge 37, 3) := by decide +kernel
theorem dX12_rainAll_70 : decode cX12_rainAll 70 = .ok (.iconst 0, 1) := by decide +kernel
theorem dX12_rainAll_71 : decode cX12_rainAll 71 = .ok (.istore_n 1, 1) := by decide +kernel
theorem dX12_rainAll_72 : decode cX12_rainAll 72 = .ok (.iconst 0, 1) := by decide +kernel
theorem dX12_rainAll_73 : decode cX12_rainAll 73 = .ok (.istore_n 2, 1) := by decide +kernel
theorem dX12_rainAll_74 : decode cX12_rainAll 74 = .ok (.iload_n 2, 1) := by decide +kernel
theorem dX12_rainAll_75 : decode cX12_rainAll 75 = .ok (.aload_n 0, 1) := by decide +kernel
theorem dX12_rainAll_76 : decode cX12_rainAll 76 = .ok (.getfield 7, 3) := by decide +kernel
theorem dX12_rainAll_79 : decode cX12_rainAll 79 = .ok (.iconst 1, 1) := by decide +kernel
theorem dX12_rainAll_80 : decode cX12_rainAll 80 = .ok (.iaload, 1) := by decide +kernel
theorem dX12_rainAll_81 : decode cX12_rainAll 81 = .ok (.if_icmp .ge 35, 3) := by decide +kernel
theorem dX12_rainAll_116 : decode cX12_rainAll 116 = .ok (.iload_n 1, 1) := by decide +kernel
theorem dX12_rainAll_117 : decode cX12_rainAll 117 = .ok (.ireturn, 1) := by decide +kernel
set_option maxHeartbeats 4000000 in
set_option maxRecDepth 100000 in
theorem m_fieldOf (l : Launch) (D : va_G) (cy : Nat → ClassId) (L : List Nat) (σ : Nat → va_E) (φ : Nat → Nat → Nat → Int32) (ρ : Nat → Nat → Int32) {m : Nat} {r : Nat → Nat} (f w : Nat) (hm : zModel cy L σ m r) (hf : f < 8) (hw : w < 7) : zMI l D cy yX12_fieldOf cX12_fieldOf 3 .int (zrm 0 0 0) [.ref m, .int (nI f), .int (nI w)] L σ φ ρ (zpu L σ φ ρ (fun r' => r' = ρ (r 0) (16 + 7 * f + w))) := by
  refine zMI.mk (by decide) (Nat.le_of_ble_eq_true rfl) (fun E hE hret => ?_)
  show zW E 0 0 L σ φ ρ 0 [(0, .ref m), (1, .int (nI f)), (2, .int (nI w))] []
  obtain ⟨hM, hr0, hr1, hr2, hr3, hr15, hr16, hr22, hr25, hr26, hr27, hr28, hr29, hr32, hr33, hr34, hr39, hr41, hr42, hr43, hr44, hr45, hr46, hr47, hr48, hr49, hr50, hr51, hr52, hne⟩ := id hm
  refine x_aload_n hE dX12_fieldOf_0 rfl 0 rfl ?_
  refine h_getr hE hM rfl inZX12 0 (by decide) q1394 rfl dX12_fieldOf_1 ?_
  refine x_bipush (v := 16) hE dX12_fieldOf_4 (by decide) ?_
  refine x_bipush (v := 7) hE dX12_fieldOf_6 (by decide) ?_
  refine x_iload_n hE dX12_fieldOf_8 rfl 1 rfl ?_
  refine x_imul hE dX12_fieldOf_9 ?_
  refine x_norm (y := nI (7 * f)) (pk_mul (7) (f)) ?_
  refine x_iadd hE dX12_fieldOf_10 ?_
  refine x_norm (y := nI (16 + (7 * f))) (nI_add (16) ((7 * f))) ?_
  refine x_iload_n hE dX12_fieldOf_11 rfl 2 rfl ?_
  refine x_iadd hE dX12_fieldOf_12 ?_
  refine x_norm (y := nI ((16 + (7 * f)) + w)) (nI_add ((16 + (7 * f))) (w)) ?_
  refine h_ialdL (iN := ((16 + (7 * f)) + w)) hE hr0 (nI_clamp (by omega)) (nI_pos (by omega)) (by omega) dX12_fieldOf_13 ?_
  exact hret _ _ _ _ _ _ _ _ (ρ (r 0) (((16 + (7 * f)) + w))) (Nat.le_of_ble_eq_true rfl) (Nat.le_of_ble_eq_true rfl) dX12_fieldOf_14 (rfl) (⟨rfl, rfl⟩)
set_option maxHeartbeats 4000000 in
set_option maxRecDepth 100000 in
theorem m_get (l : Launch) (D : va_G) (cy : Nat → ClassId) (L : List Nat) (σ : Nat → va_E) (φ : Nat → Nat → Nat → Int32) (ρ : Nat → Nat → Int32) {m : Nat} {r : Nat → Nat} (f w : Nat) (hm : zModel cy L σ m r) (hf : f < 8) (hw : w < 7) : zMI l D cy yX12_get cX12_get 3 .int (zrm 0 0 0) [.ref m, .int (nI f), .int (nI w)] L σ φ ρ (zpu L σ φ ρ (fun r' => r' = ρ (r 0) (58 + 7 * f + w))) := by
  refine zMI.mk (by decide) (Nat.le_of_ble_eq_true rfl) (fun E hE hret => ?_)
  show zW E 0 0 L σ φ ρ 0 [(0, .ref m), (1, .int (nI f)), (2, .int (nI w))] []
  obtain ⟨hM, hr0, hr1, hr2, hr3, hr15, hr16, hr22, hr25, hr26, hr27, hr28, hr29, hr32, hr33, hr34, hr39, hr41, hr42, hr43, hr44, hr45, hr46, hr47, hr48, hr49, hr50, hr51, hr52, hne⟩ := id hm
  refine x_aload_n hE dX12_get_0 rfl 0 rfl ?_
  refine h_getr hE hM rfl inZX12 0 (by decide) q1394 rfl dX12_get_1 ?_
  refine x_bipush (v := 58) hE dX12_get_4 (by decide) ?_
  refine x_bipush (v := 7) hE dX12_get_6 (by decide) ?_
  refine x_iload_n hE dX12_get_8 rfl 1 rfl ?_
  refine x_imul hE dX12_get_9 ?_
  refine x_norm (y := nI (7 * f)) (pk_mul (7) (f)) ?_
  refine x_iadd hE dX12_get_10 ?_
  refine x_norm (y := nI (58 + (7 * f))) (nI_add (58) ((7 * f))) ?_
  refine x_iload_n hE dX12_get_11 rfl 2 rfl ?_
  refine x_iadd hE dX12_get_12 ?_
  refine x_norm (y := nI ((58 + (7 * f)) + w)) (nI_add ((58 + (7 * f))) (w)) ?_
  refine h_ialdL (iN := ((58 + (7 * f)) + w)) hE hr0 (nI_clamp (by omega)) (nI_pos (by omega)) (by omega) dX12_get_13 ?_
  exact hret _ _ _ _ _ _ _ _ (ρ (r 0) (((58 + (7 * f)) + w))) (Nat.le_of_ble_eq_true rfl) (Nat.le_of_ble_eq_true rfl) dX12_get_14 (rfl) (⟨rfl, rfl⟩)
set_option maxHeartbeats 4000000 in
set_option maxRecDepth 100000 in
theorem m_keep (l : Launch) (D : va_G) (cy : Nat → ClassId) (L : List Nat) (σ : Nat → va_E) (φ : Nat → Nat → Nat → Int32) (ρ : Nat → Nat → Int32) {m : Nat} {r : Nat → Nat} (s : Nat) (hm : zModel cy L σ m r) (hs : ρ (r 0) 9 = nI s) (hlt : s < 30) : zMV l D cy yX12_keep cX12_keep 4 (zrm 1 0 0) [.ref m] L σ φ ρ (zsv L σ (fun φ' ρ' => φ' = φ ∧ (∀ j, j < 186 → j ≠ 9 → ρ' (r 0) j = ρ (r 0) j) ∧ ρ' (r 0) 9 = nI (s + 1))) := by
  refine zMV.mk (by decide) (Nat.le_of_ble_eq_true rfl) (fun E hE hI hret => ?_)
  show zW E 0 0 L σ φ ρ 0 [(0, .ref m)] []
  obtain ⟨hM, hr0, hr1, hr2, hr3, hr15, hr16, hr22, hr25, hr26, hr27, hr28, hr29, hr32, hr33, hr34, hr39, hr41, hr42, hr43, hr44, hr45, hr46, hr47, hr48, hr49, hr50, hr51, hr52, hne⟩ := id hm
  have hk : ∀ j, j < 186 → ρ (r 0) j = ρ (r 0) j := fun _ _ => rfl
  refine x_aload_n hE dX12_keep_0 rfl 0 rfl ?_
  refine h_getr hE hM rfl inZX12 0 (by decide) q1394 rfl dX12_keep_1 ?_
  refine x_bipush (v := 9) hE dX12_keep_4 (by decide) ?_
  refine h_ialdL (iN := 9) hE hr0 (by decide) (by decide) (by omega) dX12_keep_6 ?_
  refine x_norm (y := nI s) ((hk 9 (by omega)).trans hs) ?_
  refine x_bipush (v := 30) hE dX12_keep_7 (by decide) ?_
  refine x_icmp_ne (tgt := 58) hE dX12_keep_9 (by decide) (fun c_9 => ?_) (fun c_9 => absurd c_9 (fun h => absurd ((nI_eq (b := 30) (by omega) (by omega)).mp h) (by omega)))
  refine x_sipush (v := 186) hE dX12_keep_58 (by decide) ?_
  refine x_bipush (v := 52) hE dX12_keep_61 (by decide) ?_
  refine x_aload_n hE dX12_keep_63 rfl 0 rfl ?_
  refine h_getr hE hM rfl inZX12 0 (by decide) q1394 rfl dX12_keep_64 ?_
  refine x_bipush (v := 9) hE dX12_keep_67 (by decide) ?_
  refine h_ialdL (iN := 9) hE hr0 (by decide) (by decide) (by omega) dX12_keep_69 ?_
  refine x_norm (y := nI s) ((hk 9 (by omega)).trans hs) ?_
  refine x_imul hE dX12_keep_70 ?_
  refine x_norm (y := nI (52 * s)) (pk_mul (52) (s)) ?_
  refine x_iadd hE dX12_keep_71 ?_
  refine x_norm (y := nI (186 + (52 * s))) (nI_add (186) ((52 * s))) ?_
  refine x_istore_n (lv' := [(1, .int (nI (186 + (52 * s)))), (0, .ref m)]) hE dX12_keep_72 rfl (by decide) rfl ?_
  refine x_aload_n hE dX12_keep_73 rfl 1 rfl ?_
  refine h_getr hE hM rfl inZX12 0 (by decide) q1394 rfl dX12_keep_74 ?_
  refine x_iload_n hE dX12_keep_77 rfl 0 rfl ?_
  refine x_aload_n hE dX12_keep_78 rfl 1 rfl ?_
  refine h_getr hE hM rfl inZX12 0 (by decide) q1394 rfl dX12_keep_79 ?_
  refine x_iconst (v := 0) hE dX12_keep_82 (by decide) ?_
  refine h_ialdL (iN := 0) hE hr0 (by decide) (by decide) (by omega) dX12_keep_83 ?_
  refine h_iastL (iN := (186 + (52 * s))) hE hr0 (nI_clamp (by omega)) (nI_pos (by omega)) (by omega) dX12_keep_84 ?_
  refine x_rho (fun ρ_84 hρ_84 => ?_)
  have hk : ∀ j, j < 186 → ρ_84 (r 0) j = ρ (r 0) j := fun j hj => Eq.trans (by rw [hρ_84, va_up_self, pk_un (by omega)]) (hk j hj)
  refine x_aload_n hE dX12_keep_85 rfl 1 rfl ?_
  refine h_getr hE hM rfl inZX12 0 (by decide) q1394 rfl dX12_keep_86 ?_
  refine x_iload_n hE dX12_keep_89 rfl 0 rfl ?_
  refine x_iconst (v := 1) hE dX12_keep_90 (by decide) ?_
  refine x_iadd hE dX12_keep_91 ?_
  refine x_norm (y := nI ((186 + (52 * s)) + 1)) (nI_add ((186 + (52 * s))) (1)) ?_
  refine x_aload_n hE dX12_keep_92 rfl 1 rfl ?_
  refine h_getr hE hM rfl inZX12 0 (by decide) q1394 rfl dX12_keep_93 ?_
  refine x_iconst (v := 1) hE dX12_keep_96 (by decide) ?_
  refine h_ialdL (iN := 1) hE hr0 (by decide) (by decide) (by omega) dX12_keep_97 ?_
  refine h_iastL (iN := ((186 + (52 * s)) + 1)) hE hr0 (nI_clamp (by omega)) (nI_pos (by omega)) (by omega) dX12_keep_98 ?_
  refine x_rho (fun ρ_98 hρ_98 => ?_)
  have hk : ∀ j, j < 186 → ρ_98 (r 0) j = ρ (r 0) j := fun j hj => Eq.trans (by rw [hρ_98, va_up_self, pk_un (by omega)]) (hk j hj)
  refine x_iconst (v := 0) hE dX12_keep_99 (by decide) ?_
  refine x_istore_n (lv' := [(2, .int 0), (1, .int (nI (186 + (52 * s)))), (0, .ref m)]) hE dX12_keep_100 rfl (by decide) rfl ?_
  refine x_iload_n hE dX12_keep_101 rfl 0 rfl ?_
  refine x_iconst (v := 5) hE dX12_keep_102 (by decide) ?_
  refine x_icmp_ge (tgt := 130) hE dX12_keep_103 (by decide) (fun c_103 => absurd c_103 (by decide)) (fun c_103 => ?_)
  refine x_aload_n hE dX12_keep_106 rfl 2 rfl ?_
  refine h_getr hE hM rfl inZX12 0 (by decide) q1394 rfl dX12_keep_107 ?_
  refine x_iload_n hE dX12_keep_110 rfl 1 rfl ?_
  refine x_iconst (v := 2) hE dX12_keep_111 (by decide) ?_
  refine x_iadd hE dX12_keep_112 ?_
  refine x_norm (y := nI ((186 + (52 * s)) + 2)) (nI_add ((186 + (52 * s))) (2)) ?_
  refine x_iload_n hE dX12_keep_113 rfl 0 rfl ?_
  refine x_iadd hE dX12_keep_114 ?_
  refine x_norm (y := nI (((186 + (52 * s)) + 2) + 0)) (nI_add (((186 + (52 * s)) + 2)) (0)) ?_
  refine x_aload_n hE dX12_keep_115 rfl 2 rfl ?_
  refine h_getr hE hM rfl inZX12 0 (by decide) q1394 rfl dX12_keep_116 ?_
  refine x_iconst (v := 2) hE dX12_keep_119 (by decide) ?_
  refine x_iload_n hE dX12_keep_120 rfl 0 rfl ?_
  refine x_iadd hE dX12_keep_121 ?_
  refine x_norm (y := 2) (by decide) ?_
  refine h_ialdL (iN := 2) hE hr0 (by decide) (by decide) (by omega) dX12_keep_122 ?_
  refine h_iastL (iN := (((186 + (52 * s)) + 2) + 0)) hE hr0 (nI_clamp (by omega)) (nI_pos (by omega)) (by omega) dX12_keep_123 ?_
  refine x_rho (fun ρ_123 hρ_123 => ?_)
  have hk : ∀ j, j < 186 → ρ_123 (r 0) j = ρ (r 0) j := fun j hj => Eq.trans (by rw [hρ_123, va_up_self, pk_un (by omega)]) (hk j hj)
  refine x_iinc (v := 1) (lv' := [(2, .int 1), (1, .int (nI (186 + (52 * s)))), (0, .ref m)]) hE dX12_keep_124 0 rfl (by decide) (by decide) rfl ?_
  refine x_goto (tgt := 101) hE dX12_keep_127 (by decide) ?_
  refine x_iload_n hE dX12_keep_101 rfl 0 rfl ?_
  refine x_iconst (v := 5) hE dX12_keep_102 (by decide) ?_
  refine x_icmp_ge (tgt := 130) hE dX12_keep_103 (by decide) (fun c_103 => absurd c_103 (by decide)) (fun c_103 => ?_)
  refine x_aload_n hE dX12_keep_106 rfl 2 rfl ?_
  refine h_getr hE hM rfl inZX12 0 (by decide) q1394 rfl dX12_keep_107 ?_
  refine x_iload_n hE dX12_keep_110 rfl 1 rfl ?_
  refine x_iconst (v := 2) hE dX12_keep_111 (by decide) ?_
  refine x_iadd hE dX12_keep_112 ?_
  refine x_norm (y := nI ((186 + (52 * s)) + 2)) (nI_add ((186 + (52 * s))) (2)) ?_
  refine x_iload_n hE dX12_keep_113 rfl 0 rfl ?_
  refine x_iadd hE dX12_keep_114 ?_
  refine x_norm (y := nI (((186 + (52 * s)) + 2) + 1)) (nI_add (((186 + (52 * s)) + 2)) (1)) ?_
  refine x_aload_n hE dX12_keep_115 rfl 2 rfl ?_
  refine h_getr hE hM rfl inZX12 0 (by decide) q1394 rfl dX12_keep_116 ?_
  refine x_iconst (v := 2) hE dX12_keep_119 (by decide) ?_
  refine x_iload_n hE dX12_keep_120 rfl 0 rfl ?_
  refine x_iadd hE dX12_keep_121 ?_
  refine x_norm (y := 3) (by decide) ?_
  refine h_ialdL (iN := 3) hE hr0 (by decide) (by decide) (by omega) dX12_keep_122 ?_
  refine h_iastL (iN := (((186 + (52 * s)) + 2) + 1)) hE hr0 (nI_clamp (by omega)) (nI_pos (by omega)) (by omega) dX12_keep_123 ?_
  refine x_rho (fun ρ_123 hρ_123 => ?_)
  have hk : ∀ j, j < 186 → ρ_123 (r 0) j = ρ (r 0) j := fun j hj => Eq.trans (by rw [hρ_123, va_up_self, pk_un (by omega)]) (hk j hj)
  refine x_iinc (v := 2) (lv' := [(2, .int 2), (1, .int (nI (186 + (52 * s)))), (0, .ref m)]) hE dX12_keep_124 0 rfl (by decide) (by decide) rfl ?_
  refine x_goto (tgt := 101) hE dX12_keep_127 (by decide) ?_
  refine x_iload_n hE dX12_keep_101 rfl 0 rfl ?_
  refine x_iconst (v := 5) hE dX12_keep_102 (by decide) ?_
  refine x_icmp_ge (tgt := 130) hE dX12_keep_103 (by decide) (fun c_103 => absurd c_103 (by decide)) (fun c_103 => ?_)
  refine x_aload_n hE dX12_keep_106 rfl 2 rfl ?_
  refine h_getr hE hM rfl inZX12 0 (by decide) q1394 rfl dX12_keep_107 ?_
  refine x_iload_n hE dX12_keep_110 rfl 1 rfl ?_
  refine x_iconst (v := 2) hE dX12_keep_111 (by decide) ?_
  refine x_iadd hE dX12_keep_112 ?_
  refine x_norm (y := nI ((186 + (52 * s)) + 2)) (nI_add ((186 + (52 * s))) (2)) ?_
  refine x_iload_n hE dX12_keep_113 rfl 0 rfl ?_
  refine x_iadd hE dX12_keep_114 ?_
  refine x_norm (y := nI (((186 + (52 * s)) + 2) + 2)) (nI_add (((186 + (52 * s)) + 2)) (2)) ?_
  refine x_aload_n hE dX12_keep_115 rfl 2 rfl ?_
  refine h_getr hE hM rfl inZX12 0 (by decide) q1394 rfl dX12_keep_116 ?_
  refine x_iconst (v := 2) hE dX12_keep_119 (by decide) ?_
  refine x_iload_n hE dX12_keep_120 rfl 0 rfl ?_
  refine x_iadd hE dX12_keep_121 ?_
  refine x_norm (y := 4) (by decide) ?_
  refine h_ialdL (iN := 4) hE hr0 (by decide) (by decide) (by omega) dX12_keep_122 ?_
  refine h_iastL (iN := (((186 + (52 * s)) + 2) + 2)) hE hr0 (nI_clamp (by omega)) (nI_pos (by omega)) (by omega) dX12_keep_123 ?_
  refine x_rho (fun ρ_123 hρ_123 => ?_)
  have hk : ∀ j, j < 186 → ρ_123 (r 0) j = ρ (r 0) j := fun j hj => Eq.trans (by rw [hρ_123, va_up_self, pk_un (by omega)]) (hk j hj)
  refine x_iinc (v := 3) (lv' := [(2, .int 3), (1, .int (nI (186 + (52 * s)))), (0, .ref m)]) hE dX12_keep_124 0 rfl (by decide) (by decide) rfl ?_
  refine x_goto (tgt := 101) hE dX12_keep_127 (by decide) ?_
  refine x_iload_n hE dX12_keep_101 rfl 0 rfl ?_
  refine x_iconst (v := 5) hE dX12_keep_102 (by decide) ?_
  refine x_icmp_ge (tgt := 130) hE dX12_keep_103 (by decide) (fun c_103 => absurd c_103 (by decide)) (fun c_103 => ?_)
  refine x_aload_n hE dX12_keep_106 rfl 2 rfl ?_
  refine h_getr hE hM rfl inZX12 0 (by decide) q1394 rfl dX12_keep_107 ?_
  refine x_iload_n hE dX12_keep_110 rfl 1 rfl ?_
  refine x_iconst (v := 2) hE dX12_keep_111 (by decide) ?_
  refine x_iadd hE dX12_keep_112 ?_
  refine x_norm (y := nI ((186 + (52 * s)) + 2)) (nI_add ((186 + (52 * s))) (2)) ?_
  refine x_iload_n hE dX12_keep_113 rfl 0 rfl ?_
  refine x_iadd hE dX12_keep_114 ?_
  refine x_norm (y := nI (((186 + (52 * s)) + 2) + 3)) (nI_add (((186 + (52 * s)) + 2)) (3)) ?_
  refine x_aload_n hE dX12_keep_115 rfl 2 rfl ?_
  refine h_getr hE hM rfl inZX12 0 (by decide) q1394 rfl dX12_keep_116 ?_
  refine x_iconst (v := 2) hE dX12_keep_119 (by decide) ?_
  refine x_iload_n hE dX12_keep_120 rfl 0 rfl ?_
  refine x_iadd hE dX12_keep_121 ?_
  refine x_norm (y := 5) (by decide) ?_
  refine h_ialdL (iN := 5) hE hr0 (by decide) (by decide) (by omega) dX12_keep_122 ?_
  refine h_iastL (iN := (((186 + (52 * s)) + 2) + 3)) hE hr0 (nI_clamp (by omega)) (nI_pos (by omega)) (by omega) dX12_keep_123 ?_
  refine x_rho (fun ρ_123 hρ_123 => ?_)
  have hk : ∀ j, j < 186 → ρ_123 (r 0) j = ρ (r 0) j := fun j hj => Eq.trans (by rw [hρ_123, va_up_self, pk_un (by omega)]) (hk j hj)
  refine x_iinc (v := 4) (lv' := [(2, .int 4), (1, .int (nI (186 + (52 * s)))), (0, .ref m)]) hE dX12_keep_124 0 rfl (by decide) (by decide) rfl ?_
  refine x_goto (tgt := 101) hE dX12_keep_127 (by decide) ?_
  refine x_iload_n hE dX12_keep_101 rfl 0 rfl ?_
  refine x_iconst (v := 5) hE dX12_keep_102 (by decide) ?_
  refine x_icmp_ge (tgt := 130) hE dX12_keep_103 (by decide) (fun c_103 => absurd c_103 (by decide)) (fun c_103 => ?_)
  refine x_aload_n hE dX12_keep_106 rfl 2 rfl ?_
  refine h_getr hE hM rfl inZX12 0 (by decide) q1394 rfl dX12_keep_107 ?_
  refine x_iload_n hE dX12_keep_110 rfl 1 rfl ?_
  refine x_iconst (v := 2) hE dX12_keep_111 (by decide) ?_
  refine x_iadd hE dX12_keep_112 ?_
  refine x_norm (y := nI ((186 + (52 * s)) + 2)) (nI_add ((186 + (52 * s))) (2)) ?_
  refine x_iload_n hE dX12_keep_113 rfl 0 rfl ?_
  refine x_iadd hE dX12_keep_114 ?_
  refine x_norm (y := nI (((186 + (52 * s)) + 2) + 4)) (nI_add (((186 + (52 * s)) + 2)) (4)) ?_
  refine x_aload_n hE dX12_keep_115 rfl 2 rfl ?_
  refine h_getr hE hM rfl inZX12 0 (by decide) q1394 rfl dX12_keep_116 ?_
  refine x_iconst (v := 2) hE dX12_keep_119 (by decide) ?_
  refine x_iload_n hE dX12_keep_120 rfl 0 rfl ?_
  refine x_iadd hE dX12_keep_121 ?_
  refine x_norm (y := 6) (by decide) ?_
  refine h_ialdL (iN := 6) hE hr0 (by decide) (by decide) (by omega) dX12_keep_122 ?_
  refine h_iastL (iN := (((186 + (52 * s)) + 2) + 4)) hE hr0 (nI_clamp (by omega)) (nI_pos (by omega)) (by omega) dX12_keep_123 ?_
  refine x_rho (fun ρ_123 hρ_123 => ?_)
  have hk : ∀ j, j < 186 → ρ_123 (r 0) j = ρ (r 0) j := fun j hj => Eq.trans (by rw [hρ_123, va_up_self, pk_un (by omega)]) (hk j hj)
  refine x_iinc (v := 5) (lv' := [(2, .int 5), (1, .int (nI (186 + (52 * s)))), (0, .ref m)]) hE dX12_keep_124 0 rfl (by decide) (by decide) rfl ?_
  refine x_goto (tgt := 101) hE dX12_keep_127 (by decide) ?_
  refine x_iload_n hE dX12_keep_101 rfl 0 rfl ?_
  refine x_iconst (v := 5) hE dX12_keep_102 (by decide) ?_
  refine x_icmp_ge (tgt := 130) hE dX12_keep_103 (by decide) (fun c_103 => ?_) (fun c_103 => absurd (by decide) c_103)
  refine x_aload_n hE dX12_keep_130 rfl 2 rfl ?_
  refine h_getr hE hM rfl inZX12 0 (by decide) q1394 rfl dX12_keep_131 ?_
  refine x_iload_n hE dX12_keep_134 rfl 1 rfl ?_
  refine x_bipush (v := 7) hE dX12_keep_135 (by decide) ?_
  refine x_iadd hE dX12_keep_137 ?_
  refine x_norm (y := nI ((186 + (52 * s)) + 7)) (nI_add ((186 + (52 * s))) (7)) ?_
  refine x_aload_n hE dX12_keep_138 rfl 2 rfl ?_
  refine h_getr hE hM rfl inZX12 0 (by decide) q1394 rfl dX12_keep_139 ?_
  refine x_bipush (v := 13) hE dX12_keep_142 (by decide) ?_
  refine h_ialdL (iN := 13) hE hr0 (by decide) (by decide) (by omega) dX12_keep_144 ?_
  refine h_iastL (iN := ((186 + (52 * s)) + 7)) hE hr0 (nI_clamp (by omega)) (nI_pos (by omega)) (by omega) dX12_keep_145 ?_
  refine x_rho (fun ρ_145 hρ_145 => ?_)
  have hk : ∀ j, j < 186 → ρ_145 (r 0) j = ρ (r 0) j := fun j hj => Eq.trans (by rw [hρ_145, va_up_self, pk_un (by omega)]) (hk j hj)
  refine x_iconst (v := 0) hE dX12_keep_146 (by decide) ?_
  refine x_istore_n (lv' := [(2, .int 0), (1, .int (nI (186 + (52 * s)))), (0, .ref m)]) hE dX12_keep_147 rfl (by decide) rfl ?_
  refine x_iload_n hE dX12_keep_148 rfl 0 rfl ?_
  refine x_bipush (v := 6) hE dX12_keep_149 (by decide) ?_
  refine x_icmp_ge (tgt := 196) hE dX12_keep_151 (by decide) (fun c_151 => absurd c_151 (by decide)) (fun c_151 => ?_)
  refine x_iconst (v := 0) hE dX12_keep_154 (by decide) ?_
  refine x_istore_n (lv' := [(3, .int 0), (2, .int 0), (1, .int (nI (186 + (52 * s)))), (0, .ref m)]) hE dX12_keep_155 rfl (by decide) rfl ?_
  refine x_iload_n hE dX12_keep_156 rfl 0 rfl ?_
  refine x_iconst (v := 3) hE dX12_keep_157 (by decide) ?_
  refine x_icmp_ge (tgt := 190) hE dX12_keep_158 (by decide) (fun c_158 => absurd c_158 (by decide)) (fun c_158 => ?_)
  refine x_aload_n hE dX12_keep_161 rfl 3 rfl ?_
  refine h_getr hE hM rfl inZX12 0 (by decide) q1394 rfl dX12_keep_162 ?_
  refine x_iload_n hE dX12_keep_165 rfl 2 rfl ?_
  refine x_bipush (v := 8) hE dX12_keep_166 (by decide) ?_
  refine x_iadd hE dX12_keep_168 ?_
  refine x_norm (y := nI ((186 + (52 * s)) + 8)) (nI_add ((186 + (52 * s))) (8)) ?_
  refine x_iconst (v := 3) hE dX12_keep_169 (by decide) ?_
  refine x_iload_n hE dX12_keep_170 rfl 1 rfl ?_
  refine x_imul hE dX12_keep_171 ?_
  refine x_norm (y := 0) (by decide) ?_
  refine x_iadd hE dX12_keep_172 ?_
  refine x_norm (y := nI (((186 + (52 * s)) + 8) + 0)) (nI_add (((186 + (52 * s)) + 8)) (0)) ?_
  refine x_iload_n hE dX12_keep_173 rfl 0 rfl ?_
  refine x_iadd hE dX12_keep_174 ?_
  refine x_norm (y := nI ((((186 + (52 * s)) + 8) + 0) + 0)) (nI_add ((((186 + (52 * s)) + 8) + 0)) (0)) ?_
  refine x_aload_n hE dX12_keep_175 rfl 3 rfl ?_
  refine x_iload_n hE dX12_keep_176 rfl 1 rfl ?_
  refine x_iconst (v := 3) hE dX12_keep_177 (by decide) ?_
  refine x_iload_n hE dX12_keep_178 rfl 0 rfl ?_
  refine x_iadd hE dX12_keep_179 ?_
  refine x_norm (y := 3) (by decide) ?_
  refine c_ip hE (r_V (st := [.int (nI ((((186 + (52 * s)) + 8) + 0) + 0)), .ref (r 0)]) hE (m_fieldOf l D cy L σ φ ρ_145 0 3 hm (by omega) (by omega)) q1569 q1571 q39 q124 q1572 hM rfl ⟨by decide, by decide, pn_X12_fieldOf⟩ ⟨Nat.le_of_ble_eq_true rfl, Nat.le_of_ble_eq_true rfl⟩ ⟨Nat.le_of_ble_eq_true rfl, Nat.le_of_ble_eq_true rfl⟩ rfl (Nat.le_of_ble_eq_true rfl) dX12_keep_180) (fun r180 h_180 => ?_)
  refine x_widen (k' := 0) (n' := 0) (Nat.le_of_ble_eq_true rfl) (Nat.le_of_ble_eq_true rfl) ?_
  refine h_iastL (iN := ((((186 + (52 * s)) + 8) + 0) + 0)) hE hr0 (nI_clamp (by omega)) (nI_pos (by omega)) (by omega) dX12_keep_183 ?_
  refine x_rho (fun ρ_183 hρ_183 => ?_)
  have hk : ∀ j, j < 186 → ρ_183 (r 0) j = ρ (r 0) j := fun j hj => Eq.trans (by rw [hρ_183, va_up_self, pk_un (by omega)]) (hk j hj)
  refine x_iinc (v := 1) (lv' := [(3, .int 1), (2, .int 0), (1, .int (nI (186 + (52 * s)))), (0, .ref m)]) hE dX12_keep_184 0 rfl (by decide) (by decide) rfl ?_
  refine x_goto (tgt := 156) hE dX12_keep_187 (by decide) ?_
  refine x_iload_n hE dX12_keep_156 rfl 0 rfl ?_
  refine x_iconst (v := 3) hE dX12_keep_157 (by decide) ?_
  refine x_icmp_ge (tgt := 190) hE dX12_keep_158 (by decide) (fun c_158 => absurd c_158 (by decide)) (fun c_158 => ?_)
  refine x_aload_n hE dX12_keep_161 rfl 3 rfl ?_
  refine h_getr hE hM rfl inZX12 0 (by decide) q1394 rfl dX12_keep_162 ?_
  refine x_iload_n hE dX12_keep_165 rfl 2 rfl ?_
  refine x_bipush (v := 8) hE dX12_keep_166 (by decide) ?_
  refine x_iadd hE dX12_keep_168 ?_
  refine x_norm (y := nI ((186 + (52 * s)) + 8)) (nI_add ((186 + (52 * s))) (8)) ?_
  refine x_iconst (v := 3) hE dX12_keep_169 (by decide) ?_
  refine x_iload_n hE dX12_keep_170 rfl 1 rfl ?_
  refine x_imul hE dX12_keep_171 ?_
  refine x_norm (y := 0) (by decide) ?_
  refine x_iadd hE dX12_keep_172 ?_
  refine x_norm (y := nI (((186 + (52 * s)) + 8) + 0)) (nI_add (((186 + (52 * s)) + 8)) (0)) ?_
  refine x_iload_n hE dX12_keep_173 rfl 0 rfl ?_
  refine x_iadd hE dX12_keep_174 ?_
  refine x_norm (y := nI ((((186 + (52 * s)) + 8) + 0) + 1)) (nI_add ((((186 + (52 * s)) + 8) + 0)) (1)) ?_
  refine x_aload_n hE dX12_keep_175 rfl 3 rfl ?_
  refine x_iload_n hE dX12_keep_176 rfl 1 rfl ?_
  refine x_iconst (v := 3) hE dX12_keep_177 (by decide) ?_
  refine x_iload_n hE dX12_keep_178 rfl 0 rfl ?_
  refine x_iadd hE dX12_keep_179 ?_
  refine x_norm (y := 4) (by decide) ?_
  refine c_ip hE (r_V (st := [.int (nI ((((186 + (52 * s)) + 8) + 0) + 1)), .ref (r 0)]) hE (m_fieldOf l D cy L σ φ ρ_183 0 4 hm (by omega) (by omega)) q1569 q1571 q39 q124 q1572 hM rfl ⟨by decide, by decide, pn_X12_fieldOf⟩ ⟨Nat.le_of_ble_eq_true rfl, Nat.le_of_ble_eq_true rfl⟩ ⟨Nat.le_of_ble_eq_true rfl, Nat.le_of_ble_eq_true rfl⟩ rfl (Nat.le_of_ble_eq_true rfl) dX12_keep_180) (fun r180 h_180 => ?_)
  refine x_widen (k' := 0) (n' := 0) (Nat.le_of_ble_eq_true rfl) (Nat.le_of_ble_eq_true rfl) ?_
  refine h_iastL (iN := ((((186 + (52 * s)) + 8) + 0) + 1)) hE hr0 (nI_clamp (by omega)) (nI_pos (by omega)) (by omega) dX12_keep_183 ?_
  refine x_rho (fun ρ_183 hρ_183 => ?_)
  have hk : ∀ j, j < 186 → ρ_183 (r 0) j = ρ (r 0) j := fun j hj => Eq.trans (by rw [hρ_183, va_up_self, pk_un (by omega)]) (hk j hj)
  refine x_iinc (v := 2) (lv' := [(3, .int 2), (2, .int 0), (1, .int (nI (186 + (52 * s)))), (0, .ref m)]) hE dX12_keep_184 0 rfl (by decide) (by decide) rfl ?_
  refine x_goto (tgt := 156) hE dX12_keep_187 (by decide) ?_
  refine x_iload_n hE dX12_keep_156 rfl 0 rfl ?_
  refine x_iconst (v := 3) hE dX12_keep_157 (by decide) ?_
  refine x_icmp_ge (tgt := 190) hE dX12_keep_158 (by decide) (fun c_158 => absurd c_158 (by decide)) (fun c_158 => ?_)
  refine x_aload_n hE dX12_keep_161 rfl 3 rfl ?_
  refine h_getr hE hM rfl inZX12 0 (by decide) q1394 rfl dX12_keep_162 ?_
  refine x_iload_n hE dX12_keep_165 rfl 2 rfl ?_
  refine x_bipush (v := 8) hE dX12_keep_166 (by decide) ?_
  refine x_iadd hE dX12_keep_168 ?_
  refine x_norm (y := nI ((186 + (52 * s)) + 8)) (nI_add ((186 + (52 * s))) (8)) ?_
  refine x_iconst (v := 3) hE dX12_keep_169 (by decide) ?_
  refine x_iload_n hE dX12_keep_170 rfl 1 rfl ?_
  refine x_imul hE dX12_keep_171 ?_
  refine x_norm (y := 0) (by decide) ?_
  refine x_iadd hE dX12_keep_172 ?_
  refine x_norm (y := nI (((186 + (52 * s)) + 8) + 0)) (nI_add (((186 + (52 * s)) + 8)) (0)) ?_
  refine x_iload_n hE dX12_keep_173 rfl 0 rfl ?_
  refine x_iadd hE dX12_keep_174 ?_
  refine x_norm (y := nI ((((186 + (52 * s)) + 8) + 0) + 2)) (nI_add ((((186 + (52 * s)) + 8) + 0)) (2)) ?_
  refine x_aload_n hE dX12_keep_175 rfl 3 rfl ?_
  refine x_iload_n hE dX12_keep_176 rfl 1 rfl ?_
  refine x_iconst (v := 3) hE dX12_keep_177 (by decide) ?_
  refine x_iload_n hE dX12_keep_178 rfl 0 rfl ?_
  refine x_iadd hE dX12_keep_179 ?_
  refine x_norm (y := 5) (by decide) ?_
  refine c_ip hE (r_V (st := [.int (nI ((((186 + (52 * s)) + 8) + 0) + 2)), .ref (r 0)]) hE (m_fieldOf l D cy L σ φ ρ_183 0 5 hm (by omega) (by omega)) q1569 q1571 q39 q124 q1572 hM rfl ⟨by decide, by decide, pn_X12_fieldOf⟩ ⟨Nat.le_of_ble_eq_true rfl, Nat.le_of_ble_eq_true rfl⟩ ⟨Nat.le_of_ble_eq_true rfl, Nat.le_of_ble_eq_true rfl⟩ rfl (Nat.le_of_ble_eq_true rfl) dX12_keep_180) (fun r180 h_180 => ?_)
  refine x_widen (k' := 0) (n' := 0) (Nat.le_of_ble_eq_true rfl) (Nat.le_of_ble_eq_true rfl) ?_
  refine h_iastL (iN := ((((186 + (52 * s)) + 8) + 0) + 2)) hE hr0 (nI_clamp (by omega)) (nI_pos (by omega)) (by omega) dX12_keep_183 ?_
  refine x_rho (fun ρ_183 hρ_183 => ?_)
  have hk : ∀ j, j < 186 → ρ_183 (r 0) j = ρ (r 0) j := fun j hj => Eq.trans (by rw [hρ_183, va_up_self, pk_un (by omega)]) (hk j hj)
  refine x_iinc (v := 3) (lv' := [(3, .int 3), (2, .int 0), (1, .int (nI (186 + (52 * s)))), (0, .ref m)]) hE dX12_keep_184 0 rfl (by decide) (by decide) rfl ?_
  refine x_goto (tgt := 156) hE dX12_keep_187 (by decide) ?_
  refine x_iload_n hE dX12_keep_156 rfl 0 rfl ?_
  refine x_iconst (v := 3) hE dX12_keep_157 (by decide) ?_
  refine x_icmp_ge (tgt := 190) hE dX12_keep_158 (by decide) (fun c_158 => ?_) (fun c_158 => absurd (by decide) c_158)
  refine x_iinc (v := 1) (lv' := [(2, .int 1), (3, .int 3), (1, .int (nI (186 + (52 * s)))), (0, .ref m)]) hE dX12_keep_190 1 rfl (by decide) (by decide) rfl ?_
  refine x_goto (tgt := 148) hE dX12_keep_193 (by decide) ?_
  refine x_iload_n hE dX12_keep_148 rfl 0 rfl ?_
  refine x_bipush (v := 6) hE dX12_keep_149 (by decide) ?_
  refine x_icmp_ge (tgt := 196) hE dX12_keep_151 (by decide) (fun c_151 => absurd c_151 (by decide)) (fun c_151 => ?_)
  refine x_iconst (v := 0) hE dX12_keep_154 (by decide) ?_
  refine x_istore_n (lv' := [(3, .int 0), (2, .int 1), (1, .int (nI (186 + (52 * s)))), (0, .ref m)]) hE dX12_keep_155 rfl (by decide) rfl ?_
  refine x_iload_n hE dX12_keep_156 rfl 0 rfl ?_
  refine x_iconst (v := 3) hE dX12_keep_157 (by decide) ?_
  refine x_icmp_ge (tgt := 190) hE dX12_keep_158 (by decide) (fun c_158 => absurd c_158 (by decide)) (fun c_158 => ?_)
  refine x_aload_n hE dX12_keep_161 rfl 3 rfl ?_
  refine h_getr hE hM rfl inZX12 0 (by decide) q1394 rfl dX12_keep_162 ?_
  refine x_iload_n hE dX12_keep_165 rfl 2 rfl ?_
  refine x_bipush (v := 8) hE dX12_keep_166 (by decide) ?_
  refine x_iadd hE dX12_keep_168 ?_
  refine x_norm (y := nI ((186 + (52 * s)) + 8)) (nI_add ((186 + (52 * s))) (8)) ?_
  refine x_iconst (v := 3) hE dX12_keep_169 (by decide) ?_
  refine x_iload_n hE dX12_keep_170 rfl 1 rfl ?_
  refine x_imul hE dX12_keep_171 ?_
  refine x_norm (y := 3) (by decide) ?_
  refine x_iadd hE dX12_keep_172 ?_
  refine x_norm (y := nI (((186 + (52 * s)) + 8) + 3)) (nI_add (((186 + (52 * s)) + 8)) (3)) ?_
  refine x_iload_n hE dX12_keep_173 rfl 0 rfl ?_
  refine x_iadd hE dX12_keep_174 ?_
  refine x_norm (y := nI ((((186 + (52 * s)) + 8) + 3) + 0)) (nI_add ((((186 + (52 * s)) + 8) + 3)) (0)) ?_
  refine x_aload_n hE dX12_keep_175 rfl 3 rfl ?_
  refine x_iload_n hE dX12_keep_176 rfl 1 rfl ?_
  refine x_iconst (v := 3) hE dX12_keep_177 (by decide) ?_
  refine x_iload_n hE dX12_keep_178 rfl 0 rfl ?_
  refine x_iadd hE dX12_keep_179 ?_
  refine x_norm (y := 3) (by decide) ?_
  refine c_ip hE (r_V (st := [.int (nI ((((186 + (52 * s)) + 8) + 3) + 0)), .ref (r 0)]) hE (m_fieldOf l D cy L σ φ ρ_183 1 3 hm (by omega) (by omega)) q1569 q1571 q39 q124 q1572 hM rfl ⟨by decide, by decide, pn_X12_fieldOf⟩ ⟨Nat.le_of_ble_eq_true rfl, Nat.le_of_ble_eq_true rfl⟩ ⟨Nat.le_of_ble_eq_true rfl, Nat.le_of_ble_eq_true rfl⟩ rfl (Nat.le_of_ble_eq_true rfl) dX12_keep_180) (fun r180 h_180 => ?_)
  refine x_widen (k' := 0) (n' := 0) (Nat.le_of_ble_eq_true rfl) (Nat.le_of_ble_eq_true rfl) ?_
  refine h_iastL (iN := ((((186 + (52 * s)) + 8) + 3) + 0)) hE hr0 (nI_clamp (by omega)) (nI_pos (by omega)) (by omega) dX12_keep_183 ?_
  refine x_rho (fun ρ_183 hρ_183 => ?_)
  have hk : ∀ j, j < 186 → ρ_183 (r 0) j = ρ (r 0) j := fun j hj => Eq.trans (by rw [hρ_183, va_up_self, pk_un (by omega)]) (hk j hj)
  refine x_iinc (v := 1) (lv' := [(3, .int 1), (2, .int 1), (1, .int (nI (186 + (52 * s)))), (0, .ref m)]) hE dX12_keep_184 0 rfl (by decide) (by decide) rfl ?_
  refine x_goto (tgt := 156) hE dX12_keep_187 (by decide) ?_
  refine x_iload_n hE dX12_keep_156 rfl 0 rfl ?_
  refine x_iconst (v := 3) hE dX12_keep_157 (by decide) ?_
  refine x_icmp_ge (tgt := 190) hE dX12_keep_158 (by decide) (fun c_158 => absurd c_158 (by decide)) (fun c_158 => ?_)
  refine x_aload_n hE dX12_keep_161 rfl 3 rfl ?_
  refine h_getr hE hM rfl inZX12 0 (by decide) q1394 rfl dX12_keep_162 ?_
  refine x_iload_n hE dX12_keep_165 rfl 2 rfl ?_
  refine x_bipush (v := 8) hE dX12_keep_166 (by decide) ?_
  refine x_iadd hE dX12_keep_168 ?_
  refine x_norm (y := nI ((186 + (52 * s)) + 8)) (nI_add ((186 + (52 * s))) (8)) ?_
  refine x_iconst (v := 3) hE dX12_keep_169 (by decide) ?_
  refine x_iload_n hE dX12_keep_170 rfl 1 rfl ?_
  refine x_imul hE dX12_keep_171 ?_
  refine x_norm (y := 3) (by decide) ?_
  refine x_iadd hE dX12_keep_172 ?_
  refine x_norm (y := nI (((186 + (52 * s)) + 8) + 3)) (nI_add (((186 + (52 * s)) + 8)) (3)) ?_
  refine x_iload_n hE dX12_keep_173 rfl 0 rfl ?_
  refine x_iadd hE dX12_keep_174 ?_
  refine x_norm (y := nI ((((186 + (52 * s)) + 8) + 3) + 1)) (nI_add ((((186 + (52 * s)) + 8) + 3)) (1)) ?_
  refine x_aload_n hE dX12_keep_175 rfl 3 rfl ?_
  refine x_iload_n hE dX12_keep_176 rfl 1 rfl ?_
  refine x_iconst (v := 3) hE dX12_keep_177 (by decide) ?_
  refine x_iload_n hE dX12_keep_178 rfl 0 rfl ?_
  refine x_iadd hE dX12_keep_179 ?_
  refine x_norm (y := 4) (by decide) ?_
  refine c_ip hE (r_V (st := [.int (nI ((((186 + (52 * s)) + 8) + 3) + 1)), .ref (r 0)]) hE (m_fieldOf l D cy L σ φ ρ_183 1 4 hm (by omega) (by omega)) q1569 q1571 q39 q124 q1572 hM rfl ⟨by decide, by decide, pn_X12_fieldOf⟩ ⟨Nat.le_of_ble_eq_true rfl, Nat.le_of_ble_eq_true rfl⟩ ⟨Nat.le_of_ble_eq_true rfl, Nat.le_of_ble_eq_true rfl⟩ rfl (Nat.le_of_ble_eq_true rfl) dX12_keep_180) (fun r180 h_180 => ?_)
  refine x_widen (k' := 0) (n' := 0) (Nat.le_of_ble_eq_true rfl) (Nat.le_of_ble_eq_true rfl) ?_
  refine h_iastL (iN := ((((186 + (52 * s)) + 8) + 3) + 1)) hE hr0 (nI_clamp (by omega)) (nI_pos (by omega)) (by omega) dX12_keep_183 ?_
  refine x_rho (fun ρ_183 hρ_183 => ?_)
  have hk : ∀ j, j < 186 → ρ_183 (r 0) j = ρ (r 0) j := fun j hj => Eq.trans (by rw [hρ_183, va_up_self, pk_un (by omega)]) (hk j hj)
  refine x_iinc (v := 2) (lv' := [(3, .int 2), (2, .int 1), (1, .int (nI (186 + (52 * s)))), (0, .ref m)]) hE dX12_keep_184 0 rfl (by decide) (by decide) rfl ?_
  refine x_goto (tgt := 156) hE dX12_keep_187 (by decide) ?_
  refine x_iload_n hE dX12_keep_156 rfl 0 rfl ?_
  refine x_iconst (v := 3) hE dX12_keep_157 (by decide) ?_
  refine x_icmp_ge (tgt := 190) hE dX12_keep_158 (by decide) (fun c_158 => absurd c_158 (by decide)) (fun c_158 => ?_)
  refine x_aload_n hE dX12_keep_161 rfl 3 rfl ?_
  refine h_getr hE hM rfl inZX12 0 (by decide) q1394 rfl dX12_keep_162 ?_
  refine x_iload_n hE dX12_keep_165 rfl 2 rfl ?_
  refine x_bipush (v := 8) hE dX12_keep_166 (by decide) ?_
  refine x_iadd hE dX12_keep_168 ?_
  refine x_norm (y := nI ((186 + (52 * s)) + 8)) (nI_add ((186 + (52 * s))) (8)) ?_
  refine x_iconst (v := 3) hE dX12_keep_169 (by decide) ?_
  refine x_iload_n hE dX12_keep_170 rfl 1 rfl ?_
  refine x_imul hE dX12_keep_171 ?_
  refine x_norm (y := 3) (by decide) ?_
  refine x_iadd hE dX12_keep_172 ?_
  refine x_norm (y := nI (((186 + (52 * s)) + 8) + 3)) (nI_add (((186 + (52 * s)) + 8)) (3)) ?_
  refine x_iload_n hE dX12_keep_173 rfl 0 rfl ?_
  refine x_iadd hE dX12_keep_174 ?_
  refine x_norm (y := nI ((((186 + (52 * s)) + 8) + 3) + 2)) (nI_add ((((186 + (52 * s)) + 8) + 3)) (2)) ?_
  refine x_aload_n hE dX12_keep_175 rfl 3 rfl ?_
  refine x_iload_n hE dX12_keep_176 rfl 1 rfl ?_
  refine x_iconst (v := 3) hE dX12_keep_177 (by decide) ?_
  refine x_iload_n hE dX12_keep_178 rfl 0 rfl ?_
  refine x_iadd hE dX12_keep_179 ?_
  refine x_norm (y := 5) (by decide) ?_
  refine c_ip hE (r_V (st := [.int (nI ((((186 + (52 * s)) + 8) + 3) + 2)), .ref (r 0)]) hE (m_fieldOf l D cy L σ φ ρ_183 1 5 hm (by omega) (by omega)) q1569 q1571 q39 q124 q1572 hM rfl ⟨by decide, by decide, pn_X12_fieldOf⟩ ⟨Nat.le_of_ble_eq_true rfl, Nat.le_of_ble_eq_true rfl⟩ ⟨Nat.le_of_ble_eq_true rfl, Nat.le_of_ble_eq_true rfl⟩ rfl (Nat.le_of_ble_eq_true rfl) dX12_keep_180) (fun r180 h_180 => ?_)
  refine x_widen (k' := 0) (n' := 0) (Nat.le_of_ble_eq_true rfl) (Nat.le_of_ble_eq_true rfl) ?_
  refine h_iastL (iN := ((((186 + (52 * s)) + 8) + 3) + 2)) hE hr0 (nI_clamp (by omega)) (nI_pos (by omega)) (by omega) dX12_keep_183 ?_
  refine x_rho (fun ρ_183 hρ_183 => ?_)
  have hk : ∀ j, j < 186 → ρ_183 (r 0) j = ρ (r 0) j := fun j hj => Eq.trans (by rw [hρ_183, va_up_self, pk_un (by omega)]) (hk j hj)
  refine x_iinc (v := 3) (lv' := [(3, .int 3), (2, .int 1), (1, .int (nI (186 + (52 * s)))), (0, .ref m)]) hE dX12_keep_184 0 rfl (by decide) (by decide) rfl ?_
  refine x_goto (tgt := 156) hE dX12_keep_187 (by decide) ?_
  refine x_iload_n hE dX12_keep_156 rfl 0 rfl ?_
  refine x_iconst (v := 3) hE dX12_keep_157 (by decide) ?_
  refine x_icmp_ge (tgt := 190) hE dX12_keep_158 (by decide) (fun c_158 => ?_) (fun c_158 => absurd (by decide) c_158)
  refine x_iinc (v := 2) (lv' := [(2, .int 2), (3, .int 3), (1, .int (nI (186 + (52 * s)))), (0, .ref m)]) hE dX12_keep_190 1 rfl (by decide) (by decide) rfl ?_
  refine x_goto (tgt := 148) hE dX12_keep_193 (by decide) ?_
  refine x_iload_n hE dX12_keep_148 rfl 0 rfl ?_
  refine x_bipush (v := 6) hE dX12_keep_149 (by decide) ?_
  refine x_icmp_ge (tgt := 196) hE dX12_keep_151 (by decide) (fun c_151 => absurd c_151 (by decide)) (fun c_151 => ?_)
  refine x_iconst (v := 0) hE dX12_keep_154 (by decide) ?_
  refine x_istore_n (lv' := [(3, .int 0), (2, .int 2), (1, .int (nI (186 + (52 * s)))), (0, .ref m)]) hE dX12_keep_155 rfl (by decide) rfl ?_
  refine x_iload_n hE dX12_keep_156 rfl 0 rfl ?_
  refine x_iconst (v := 3) hE dX12_keep_157 (by decide) ?_
  refine x_icmp_ge (tgt := 190) hE dX12_keep_158 (by decide) (fun c_158 => absurd c_158 (by decide)) (fun c_158 => ?_)
  refine x_aload_n hE dX12_keep_161 rfl 3 rfl ?_
  refine h_getr hE hM rfl inZX12 0 (by decide) q1394 rfl dX12_keep_162 ?_
  refine x_iload_n hE dX12_keep_165 rfl 2 rfl ?_
  refine x_bipush (v := 8) hE dX12_keep_166 (by decide) ?_
  refine x_iadd hE dX12_keep_168 ?_
  refine x_norm (y := nI ((186 + (52 * s)) + 8)) (nI_add ((186 + (52 * s))) (8)) ?_
  refine x_iconst (v := 3) hE dX12_keep_169 (by decide) ?_
  refine x_iload_n hE dX12_keep_170 rfl 1 rfl ?_
  refine x_imul hE dX12_keep_171 ?_
  refine x_norm (y := 6) (by decide) ?_
  refine x_iadd hE dX12_keep_172 ?_
  refine x_norm (y := nI (((186 + (52 * s)) + 8) + 6)) (nI_add (((186 + (52 * s)) + 8)) (6)) ?_
  refine x_iload_n hE dX12_keep_173 rfl 0 rfl ?_
  refine x_iadd hE dX12_keep_174 ?_
  refine x_norm (y := nI ((((186 + (52 * s)) + 8) + 6) + 0)) (nI_add ((((186 + (52 * s)) + 8) + 6)) (0)) ?_
  refine x_aload_n hE dX12_keep_175 rfl 3 rfl ?_
  refine x_iload_n hE dX12_keep_176 rfl 1 rfl ?_
  refine x_iconst (v := 3) hE dX12_keep_177 (by decide) ?_
  refine x_iload_n hE dX12_keep_178 rfl 0 rfl ?_
  refine x_iadd hE dX12_keep_179 ?_
  refine x_norm (y := 3) (by decide) ?_
  refine c_ip hE (r_V (st := [.int (nI ((((186 + (52 * s)) + 8) + 6) + 0)), .ref (r 0)]) hE (m_fieldOf l D cy L σ φ ρ_183 2 3 hm (by omega) (by omega)) q1569 q1571 q39 q124 q1572 hM rfl ⟨by decide, by decide, pn_X12_fieldOf⟩ ⟨Nat.le_of_ble_eq_true rfl, Nat.le_of_ble_eq_true rfl⟩ ⟨Nat.le_of_ble_eq_true rfl, Nat.le_of_ble_eq_true rfl⟩ rfl (Nat.le_of_ble_eq_true rfl) dX12_keep_180) (fun r180 h_180 => ?_)
  refine x_widen (k' := 0) (n' := 0) (Nat.le_of_ble_eq_true rfl) (Nat.le_of_ble_eq_true rfl) ?_
  refine h_iastL (iN := ((((186 + (52 * s)) + 8) + 6) + 0)) hE hr0 (nI_clamp (by omega)) (nI_pos (by omega)) (by omega) dX12_keep_183 ?_
  refine x_rho (fun ρ_183 hρ_183 => ?_)
  have hk : ∀ j, j < 186 → ρ_183 (r 0) j = ρ (r 0) j := fun j hj => Eq.trans (by rw [hρ_183, va_up_self, pk_un (by omega)]) (hk j hj)
  refine x_iinc (v := 1) (lv' := [(3, .int 1), (2, .int 2), (1, .int (nI (186 + (52 * s)))), (0, .ref m)]) hE dX12_keep_184 0 rfl (by decide) (by decide) rfl ?_
  refine x_goto (tgt := 156) hE dX12_keep_187 (by decide) ?_
  refine x_iload_n hE dX12_keep_156 rfl 0 rfl ?_
  refine x_iconst (v := 3) hE dX12_keep_157 (by decide) ?_
  refine x_icmp_ge (tgt := 190) hE dX12_keep_158 (by decide) (fun c_158 => absurd c_158 (by decide)) (fun c_158 => ?_)
  refine x_aload_n hE dX12_keep_161 rfl 3 rfl ?_
  refine h_getr hE hM rfl inZX12 0 (by decide) q1394 rfl dX12_keep_162 ?_
  refine x_iload_n hE dX12_keep_165 rfl 2 rfl ?_
  refine x_bipush (v := 8) hE dX12_keep_166 (by decide) ?_
  refine x_iadd hE dX12_keep_168 ?_
  refine x_norm (y := nI ((186 + (52 * s)) + 8)) (nI_add ((186 + (52 * s))) (8)) ?_
  refine x_iconst (v := 3) hE dX12_keep_169 (by decide) ?_
  refine x_iload_n hE dX12_keep_170 rfl 1 rfl ?_
  refine x_imul hE dX12_keep_171 ?_
  refine x_norm (y := 6) (by decide) ?_
  refine x_iadd hE dX12_keep_172 ?_
  refine x_norm (y := nI (((186 + (52 * s)) + 8) + 6)) (nI_add (((186 + (52 * s)) + 8)) (6)) ?_
  refine x_iload_n hE dX12_keep_173 rfl 0 rfl ?_
  refine x_iadd hE dX12_keep_174 ?_
  refine x_norm (y := nI ((((186 + (52 * s)) + 8) + 6) + 1)) (nI_add ((((186 + (52 * s)) + 8) + 6)) (1)) ?_
  refine x_aload_n hE dX12_keep_175 rfl 3 rfl ?_
  refine x_iload_n hE dX12_keep_176 rfl 1 rfl ?_
  refine x_iconst (v := 3) hE dX12_keep_177 (by decide) ?_
  refine x_iload_n hE dX12_keep_178 rfl 0 rfl ?_
  refine x_iadd hE dX12_keep_179 ?_
  refine x_norm (y := 4) (by decide) ?_
  refine c_ip hE (r_V (st := [.int (nI ((((186 + (52 * s)) + 8) + 6) + 1)), .ref (r 0)]) hE (m_fieldOf l D cy L σ φ ρ_183 2 4 hm (by omega) (by omega)) q1569 q1571 q39 q124 q1572 hM rfl ⟨by decide, by decide, pn_X12_fieldOf⟩ ⟨Nat.le_of_ble_eq_true rfl, Nat.le_of_ble_eq_true rfl⟩ ⟨Nat.le_of_ble_eq_true rfl, Nat.le_of_ble_eq_true rfl⟩ rfl (Nat.le_of_ble_eq_true rfl) dX12_keep_180) (fun r180 h_180 => ?_)
  refine x_widen (k' := 0) (n' := 0) (Nat.le_of_ble_eq_true rfl) (Nat.le_of_ble_eq_true rfl) ?_
  refine h_iastL (iN := ((((186 + (52 * s)) + 8) + 6) + 1)) hE hr0 (nI_clamp (by omega)) (nI_pos (by omega)) (by omega) dX12_keep_183 ?_
  refine x_rho (fun ρ_183 hρ_183 => ?_)
  have hk : ∀ j, j < 186 → ρ_183 (r 0) j = ρ (r 0) j := fun j hj => Eq.trans (by rw [hρ_183, va_up_self, pk_un (by omega)]) (hk j hj)
  refine x_iinc (v := 2) (lv' := [(3, .int 2), (2, .int 2), (1, .int (nI (186 + (52 * s)))), (0, .ref m)]) hE dX12_keep_184 0 rfl (by decide) (by decide) rfl ?_
  refine x_goto (tgt := 156) hE dX12_keep_187 (by decide) ?_
  refine x_iload_n hE dX12_keep_156 rfl 0 rfl ?_
  refine x_iconst (v := 3) hE dX12_keep_157 (by decide) ?_
  refine x_icmp_ge (tgt := 190) hE dX12_keep_158 (by decide) (fun c_158 => absurd c_158 (by decide)) (fun c_158 => ?_)
  refine x_aload_n hE dX12_keep_161 rfl 3 rfl ?_
  refine h_getr hE hM rfl inZX12 0 (by decide) q1394 rfl dX12_keep_162 ?_
  refine x_iload_n hE dX12_keep_165 rfl 2 rfl ?_
  refine x_bipush (v := 8) hE dX12_keep_166 (by decide) ?_
  refine x_iadd hE dX12_keep_168 ?_
  refine x_norm (y := nI ((186 + (52 * s)) + 8)) (nI_add ((186 + (52 * s))) (8)) ?_
  refine x_iconst (v := 3) hE dX12_keep_169 (by decide) ?_
  refine x_iload_n hE dX12_keep_170 rfl 1 rfl ?_
  refine x_imul hE dX12_keep_171 ?_
  refine x_norm (y := 6) (by decide) ?_
  refine x_iadd hE dX12_keep_172 ?_
  refine x_norm (y := nI (((186 + (52 * s)) + 8) + 6)) (nI_add (((186 + (52 * s)) + 8)) (6)) ?_
  refine x_iload_n hE dX12_keep_173 rfl 0 rfl ?_
  refine x_iadd hE dX12_keep_174 ?_
  refine x_norm (y := nI ((((186 + (52 * s)) + 8) + 6) + 2)) (nI_add ((((186 + (52 * s)) + 8) + 6)) (2)) ?_
  refine x_aload_n hE dX12_keep_175 rfl 3 rfl ?_
  refine x_iload_n hE dX12_keep_176 rfl 1 rfl ?_
  refine x_iconst (v := 3) hE dX12_keep_177 (by decide) ?_
  refine x_iload_n hE dX12_keep_178 rfl 0 rfl ?_
  refine x_iadd hE dX12_keep_179 ?_
  refine x_norm (y := 5) (by decide) ?_
  refine c_ip hE (r_V (st := [.int (nI ((((186 + (52 * s)) + 8) + 6) + 2)), .ref (r 0)]) hE (m_fieldOf l D cy L σ φ ρ_183 2 5 hm (by omega) (by omega)) q1569 q1571 q39 q124 q1572 hM rfl ⟨by decide, by decide, pn_X12_fieldOf⟩ ⟨Nat.le_of_ble_eq_true rfl, Nat.le_of_ble_eq_true rfl⟩ ⟨Nat.le_of_ble_eq_true rfl, Nat.le_of_ble_eq_true rfl⟩ rfl (Nat.le_of_ble_eq_true rfl) dX12_keep_180) (fun r180 h_180 => ?_)
  refine x_widen (k' := 0) (n' := 0) (Nat.le_of_ble_eq_true rfl) (Nat.le_of_ble_eq_true rfl) ?_
  refine h_iastL (iN := ((((186 + (52 * s)) + 8) + 6) + 2)) hE hr0 (nI_clamp (by omega)) (nI_pos (by omega)) (by omega) dX12_keep_183 ?_
  refine x_rho (fun ρ_183 hρ_183 => ?_)
  have hk : ∀ j, j < 186 → ρ_183 (r 0) j = ρ (r 0) j := fun j hj => Eq.trans (by rw [hρ_183, va_up_self, pk_un (by omega)]) (hk j hj)
  refine x_iinc (v := 3) (lv' := [(3, .int 3), (2, .int 2), (1, .int (nI (186 + (52 * s)))), (0, .ref m)]) hE dX12_keep_184 0 rfl (by decide) (by decide) rfl ?_
  refine x_goto (tgt := 156) hE dX12_keep_187 (by decide) ?_
  refine x_iload_n hE dX12_keep_156 rfl 0 rfl ?_
  refine x_iconst (v := 3) hE dX12_keep_157 (by decide) ?_
  refine x_icmp_ge (tgt := 190) hE dX12_keep_158 (by decide) (fun c_158 => ?_) (fun c_158 => absurd (by decide) c_158)
  refine x_iinc (v := 3) (lv' := [(2, .int 3), (3, .int 3), (1, .int (nI (186 + (52 * s)))), (0, .ref m)]) hE dX12_keep_190 1 rfl (by decide) (by decide) rfl ?_
  refine x_goto (tgt := 148) hE dX12_keep_193 (by decide) ?_
  refine x_iload_n hE dX12_keep_148 rfl 0 rfl ?_
  refine x_bipush (v := 6) hE dX12_keep_149 (by decide) ?_
  refine x_icmp_ge (tgt := 196) hE dX12_keep_151 (by decide) (fun c_151 => absurd c_151 (by decide)) (fun c_151 => ?_)
  refine x_iconst (v := 0) hE dX12_keep_154 (by decide) ?_
  refine x_istore_n (lv' := [(3, .int 0), (2, .int 3), (1, .int (nI (186 + (52 * s)))), (0, .ref m)]) hE dX12_keep_155 rfl (by decide) rfl ?_
  refine x_iload_n hE dX12_keep_156 rfl 0 rfl ?_
  refine x_iconst (v := 3) hE dX12_keep_157 (by decide) ?_
  refine x_icmp_ge (tgt := 190) hE dX12_keep_158 (by decide) (fun c_158 => absurd c_158 (by decide)) (fun c_158 => ?_)
  refine x_aload_n hE dX12_keep_161 rfl 3 rfl ?_
  refine h_getr hE hM rfl inZX12 0 (by decide) q1394 rfl dX12_keep_162 ?_
  refine x_iload_n hE dX12_keep_165 rfl 2 rfl ?_
  refine x_bipush (v := 8) hE dX12_keep_166 (by decide) ?_
  refine x_iadd hE dX12_keep_168 ?_
  refine x_norm (y := nI ((186 + (52 * s)) + 8)) (nI_add ((186 + (52 * s))) (8)) ?_
  refine x_iconst (v := 3) hE dX12_keep_169 (by decide) ?_
  refine x_iload_n hE dX12_keep_170 rfl 1 rfl ?_
  refine x_imul hE dX12_keep_171 ?_
  refine x_norm (y := 9) (by decide) ?_
  refine x_iadd hE dX12_keep_172 ?_
  refine x_norm (y := nI (((186 + (52 * s)) + 8) + 9)) (nI_add (((186 + (52 * s)) + 8)) (9)) ?_
  refine x_iload_n hE dX12_keep_173 rfl 0 rfl ?_
  refine x_iadd hE dX12_keep_174 ?_
  refine x_norm (y := nI ((((186 + (52 * s)) + 8) + 9) + 0)) (nI_add ((((186 + (52 * s)) + 8) + 9)) (0)) ?_
  refine x_aload_n hE dX12_keep_175 rfl 3 rfl ?_
  refine x_iload_n hE dX12_keep_176 rfl 1 rfl ?_
  refine x_iconst (v := 3) hE dX12_keep_177 (by decide) ?_
  refine x_iload_n hE dX12_keep_178 rfl 0 rfl ?_
  refine x_iadd hE dX12_keep_179 ?_
  refine x_norm (y := 3) (by decide) ?_
  refine c_ip hE (r_V (st := [.int (nI ((((186 + (52 * s)) + 8) + 9) + 0)), .ref (r 0)]) hE (m_fieldOf l D cy L σ φ ρ_183 3 3 hm (by omega) (by omega)) q1569 q1571 q39 q124 q1572 hM rfl ⟨by decide, by decide, pn_X12_fieldOf⟩ ⟨Nat.le_of_ble_eq_true rfl, Nat.le_of_ble_eq_true rfl⟩ ⟨Nat.le_of_ble_eq_true rfl, Nat.le_of_ble_eq_true rfl⟩ rfl (Nat.le_of_ble_eq_true rfl) dX12_keep_180) (fun r180 h_180 => ?_)
  refine x_widen (k' := 0) (n' := 0) (Nat.le_of_ble_eq_true rfl) (Nat.le_of_ble_eq_true rfl) ?_
  refine h_iastL (iN := ((((186 + (52 * s)) + 8) + 9) + 0)) hE hr0 (nI_clamp (by omega)) (nI_pos (by omega)) (by omega) dX12_keep_183 ?_
  refine x_rho (fun ρ_183 hρ_183 => ?_)
  have hk : ∀ j, j < 186 → ρ_183 (r 0) j = ρ (r 0) j := fun j hj => Eq.trans (by rw [hρ_183, va_up_self, pk_un (by omega)]) (hk j hj)
  refine x_iinc (v := 1) (lv' := [(3, .int 1), (2, .int 3), (1, .int (nI (186 + (52 * s)))), (0, .ref m)]) hE dX12_keep_184 0 rfl (by decide) (by decide) rfl ?_
  refine x_goto (tgt := 156) hE dX12_keep_187 (by decide) ?_
  refine x_iload_n hE dX12_keep_156 rfl 0 rfl ?_
  refine x_iconst (v := 3) hE dX12_keep_157 (by decide) ?_
  refine x_icmp_ge (tgt := 190) hE dX12_keep_158 (by decide) (fun c_158 => absurd c_158 (by decide)) (fun c_158 => ?_)
  refine x_aload_n hE dX12_keep_161 rfl 3 rfl ?_
  refine h_getr hE hM rfl inZX12 0 (by decide) q1394 rfl dX12_keep_162 ?_
  refine x_iload_n hE dX12_keep_165 rfl 2 rfl ?_
  refine x_bipush (v := 8) hE dX12_keep_166 (by decide) ?_
  refine x_iadd hE dX12_keep_168 ?_
  refine x_norm (y := nI ((186 + (52 * s)) + 8)) (nI_add ((186 + (52 * s))) (8)) ?_
  refine x_iconst (v := 3) hE dX12_keep_169 (by decide) ?_
  refine x_iload_n hE dX12_keep_170 rfl 1 rfl ?_
  refine x_imul hE dX12_keep_171 ?_
  refine x_norm (y := 9) (by decide) ?_
  refine x_iadd hE dX12_keep_172 ?_
  refine x_norm (y := nI (((186 + (52 * s)) + 8) + 9)) (nI_add (((186 + (52 * s)) + 8)) (9)) ?_
  refine x_iload_n hE dX12_keep_173 rfl 0 rfl ?_
  refine x_iadd hE dX12_keep_174 ?_
  refine x_norm (y := nI ((((186 + (52 * s)) + 8) + 9) + 1)) (nI_add ((((186 + (52 * s)) + 8) + 9)) (1)) ?_
  refine x_aload_n hE dX12_keep_175 rfl 3 rfl ?_
  refine x_iload_n hE dX12_keep_176 rfl 1 rfl ?_
  refine x_iconst (v := 3) hE dX12_keep_177 (by decide) ?_
  refine x_iload_n hE dX12_keep_178 rfl 0 rfl ?_
  refine x_iadd hE dX12_keep_179 ?_
  refine x_norm (y := 4) (by decide) ?_
  refine c_ip hE (r_V (st := [.int (nI ((((186 + (52 * s)) + 8) + 9) + 1)), .ref (r 0)]) hE (m_fieldOf l D cy L σ φ ρ_183 3 4 hm (by omega) (by omega)) q1569 q1571 q39 q124 q1572 hM rfl ⟨by decide, by decide, pn_X12_fieldOf⟩ ⟨Nat.le_of_ble_eq_true rfl, Nat.le_of_ble_eq_true rfl⟩ ⟨Nat.le_of_ble_eq_true rfl, Nat.le_of_ble_eq_true rfl⟩ rfl (Nat.le_of_ble_eq_true rfl) dX12_keep_180) (fun r180 h_180 => ?_)
  refine x_widen (k' := 0) (n' := 0) (Nat.le_of_ble_eq_true rfl) (Nat.le_of_ble_eq_true rfl) ?_
  refine h_iastL (iN := ((((186 + (52 * s)) + 8) + 9) + 1)) hE hr0 (nI_clamp (by omega)) (nI_pos (by omega)) (by omega) dX12_keep_183 ?_
  refine x_rho (fun ρ_183 hρ_183 => ?_)
  have hk : ∀ j, j < 186 → ρ_183 (r 0) j = ρ (r 0) j := fun j hj => Eq.trans (by rw [hρ_183, va_up_self, pk_un (by omega)]) (hk j hj)
  refine x_iinc (v := 2) (lv' := [(3, .int 2), (2, .int 3), (1, .int (nI (186 + (52 * s)))), (0, .ref m)]) hE dX12_keep_184 0 rfl (by decide) (by decide) rfl ?_
  refine x_goto (tgt := 156) hE dX12_keep_187 (by decide) ?_
  refine x_iload_n hE dX12_keep_156 rfl 0 rfl ?_
  refine x_iconst (v := 3) hE dX12_keep_157 (by decide) ?_
  refine x_icmp_ge (tgt := 190) hE dX12_keep_158 (by decide) (fun c_158 => absurd c_158 (by decide)) (fun c_158 => ?_)
  refine x_aload_n hE dX12_keep_161 rfl 3 rfl ?_
  refine h_getr hE hM rfl inZX12 0 (by decide) q1394 rfl dX12_keep_162 ?_
  refine x_iload_n hE dX12_keep_165 rfl 2 rfl ?_
  refine x_bipush (v := 8) hE dX12_keep_166 (by decide) ?_
  refine x_iadd hE dX12_keep_168 ?_
  refine x_norm (y := nI ((186 + (52 * s)) + 8)) (nI_add ((186 + (52 * s))) (8)) ?_
  refine x_iconst (v := 3) hE dX12_keep_169 (by decide) ?_
  refine x_iload_n hE dX12_keep_170 rfl 1 rfl ?_
  refine x_imul hE dX12_keep_171 ?_
  refine x_norm (y := 9) (by decide) ?_
  refine x_iadd hE dX12_keep_172 ?_
  refine x_norm (y := nI (((186 + (52 * s)) + 8) + 9)) (nI_add (((186 + (52 * s)) + 8)) (9)) ?_
  refine x_iload_n hE dX12_keep_173 rfl 0 rfl ?_
  refine x_iadd hE dX12_keep_174 ?_
  refine x_norm (y := nI ((((186 + (52 * s)) + 8) + 9) + 2)) (nI_add ((((186 + (52 * s)) + 8) + 9)) (2)) ?_
  refine x_aload_n hE dX12_keep_175 rfl 3 rfl ?_
  refine x_iload_n hE dX12_keep_176 rfl 1 rfl ?_
  refine x_iconst (v := 3) hE dX12_keep_177 (by decide) ?_
  refine x_iload_n hE dX12_keep_178 rfl 0 rfl ?_
  refine x_iadd hE dX12_keep_179 ?_
  refine x_norm (y := 5) (by decide) ?_
  refine c_ip hE (r_V (st := [.int (nI ((((186 + (52 * s)) + 8) + 9) + 2)), .ref (r 0)]) hE (m_fieldOf l D cy L σ φ ρ_183 3 5 hm (by omega) (by omega)) q1569 q1571 q39 q124 q1572 hM rfl ⟨by decide, by decide, pn_X12_fieldOf⟩ ⟨Nat.le_of_ble_eq_true rfl, Nat.le_of_ble_eq_true rfl⟩ ⟨Nat.le_of_ble_eq_true rfl, Nat.le_of_ble_eq_true rfl⟩ rfl (Nat.le_of_ble_eq_true rfl) dX12_keep_180) (fun r180 h_180 => ?_)
  refine x_widen (k' := 0) (n' := 0) (Nat.le_of_ble_eq_true rfl) (Nat.le_of_ble_eq_true rfl) ?_
  refine h_iastL (iN := ((((186 + (52 * s)) + 8) + 9) + 2)) hE hr0 (nI_clamp (by omega)) (nI_pos (by omega)) (by omega) dX12_keep_183 ?_
  refine x_rho (fun ρ_183 hρ_183 => ?_)
  have hk : ∀ j, j < 186 → ρ_183 (r 0) j = ρ (r 0) j := fun j hj => Eq.trans (by rw [hρ_183, va_up_self, pk_un (by omega)]) (hk j hj)
  refine x_iinc (v := 3) (lv' := [(3, .int 3), (2, .int 3), (1, .int (nI (186 + (52 * s)))), (0, .ref m)]) hE dX12_keep_184 0 rfl (by decide) (by decide) rfl ?_
  refine x_goto (tgt := 156) hE dX12_keep_187 (by decide) ?_
  refine x_iload_n hE dX12_keep_156 rfl 0 rfl ?_
  refine x_iconst (v := 3) hE dX12_keep_157 (by decide) ?_
  refine x_icmp_ge (tgt := 190) hE dX12_keep_158 (by decide) (fun c_158 => ?_) (fun c_158 => absurd (by decide) c_158)
  refine x_iinc (v := 4) (lv' := [(2, .int 4), (3, .int 3), (1, .int (nI (186 + (52 * s)))), (0, .ref m)]) hE dX12_keep_190 1 rfl (by decide) (by decide) rfl ?_
  refine x_goto (tgt := 148) hE dX12_keep_193 (by decide) ?_
  refine x_iload_n hE dX12_keep_148 rfl 0 rfl ?_
  refine x_bipush (v := 6) hE dX12_keep_149 (by decide) ?_
  refine x_icmp_ge (tgt := 196) hE dX12_keep_151 (by decide) (fun c_151 => absurd c_151 (by decide)) (fun c_151 => ?_)
  refine x_iconst (v := 0) hE dX12_keep_154 (by decide) ?_
  refine x_istore_n (lv' := [(3, .int 0), (2, .int 4), (1, .int (nI (186 + (52 * s)))), (0, .ref m)]) hE dX12_keep_155 rfl (by decide) rfl ?_
  refine x_iload_n hE dX12_keep_156 rfl 0 rfl ?_
  refine x_iconst (v := 3) hE dX12_keep_157 (by decide) ?_
  refine x_icmp_ge (tgt := 190) hE dX12_keep_158 (by decide) (fun c_158 => absurd c_158 (by decide)) (fun c_158 => ?_)
  refine x_aload_n hE dX12_keep_161 rfl 3 rfl ?_
  refine h_getr hE hM rfl inZX12 0 (by decide) q1394 rfl dX12_keep_162 ?_
  refine x_iload_n hE dX12_keep_165 rfl 2 rfl ?_
  refine x_bipush (v := 8) hE dX12_keep_166 (by decide) ?_
  refine x_iadd hE dX12_keep_168 ?_
  refine x_norm (y := nI ((186 + (52 * s)) + 8)) (nI_add ((186 + (52 * s))) (8)) ?_
  refine x_iconst (v := 3) hE dX12_keep_169 (by decide) ?_
  refine x_iload_n hE dX12_keep_170 rfl 1 rfl ?_
  refine x_imul hE dX12_keep_171 ?_
  refine x_norm (y := 12) (by decide) ?_
  refine x_iadd hE dX12_keep_172 ?_
  refine x_norm (y := nI (((186 + (52 * s)) + 8) + 12)) (nI_add (((186 + (52 * s)) + 8)) (12)) ?_
  refine x_iload_n hE dX12_keep_173 rfl 0 rfl ?_
  refine x_iadd hE dX12_keep_174 ?_
  refine x_norm (y := nI ((((186 + (52 * s)) + 8) + 12) + 0)) (nI_add ((((186 + (52 * s)) + 8) + 12)) (0)) ?_
  refine x_aload_n hE dX12_keep_175 rfl 3 rfl ?_
  refine x_iload_n hE dX12_keep_176 rfl 1 rfl ?_
  refine x_iconst (v := 3) hE dX12_keep_177 (by decide) ?_
  refine x_iload_n hE dX12_keep_178 rfl 0 rfl ?_
  refine x_iadd hE dX12_keep_179 ?_
  refine x_norm (y := 3) (by decide) ?_
  refine c_ip hE (r_V (st := [.int (nI ((((186 + (52 * s)) + 8) + 12) + 0)), .ref (r 0)]) hE (m_fieldOf l D cy L σ φ ρ_183 4 3 hm (by omega) (by omega)) q1569 q1571 q39 q124 q1572 hM rfl ⟨by decide, by decide, pn_X12_fieldOf⟩ ⟨Nat.le_of_ble_eq_true rfl, Nat.le_of_ble_eq_true rfl⟩ ⟨Nat.le_of_ble_eq_true rfl, Nat.le_of_ble_eq_true rfl⟩ rfl (Nat.le_of_ble_eq_true rfl) dX12_keep_180) (fun r180 h_180 => ?_)
  refine x_widen (k' := 0) (n' := 0) (Nat.le_of_ble_eq_true rfl) (Nat.le_of_ble_eq_true rfl) ?_
  refine h_iastL (iN := ((((186 + (52 * s)) + 8) + 12) + 0)) hE hr0 (nI_clamp (by omega)) (nI_pos (by omega)) (by omega) dX12_keep_183 ?_
  refine x_rho (fun ρ_183 hρ_183 => ?_)
  have hk : ∀ j, j < 186 → ρ_183 (r 0) j = ρ (r 0) j := fun j hj => Eq.trans (by rw [hρ_183, va_up_self, pk_un (by omega)]) (hk j hj)
  refine x_iinc (v := 1) (lv' := [(3, .int 1), (2, .int 4), (1, .int (nI (186 + (52 * s)))), (0, .ref m)]) hE dX12_keep_184 0 rfl (by decide) (by decide) rfl ?_
  refine x_goto (tgt := 156) hE dX12_keep_187 (by decide) ?_
  refine x_iload_n hE dX12_keep_156 rfl 0 rfl ?_
  refine x_iconst (v := 3) hE dX12_keep_157 (by decide) ?_
  refine x_icmp_ge (tgt := 190) hE dX12_keep_158 (by decide) (fun c_158 => absurd c_158 (by decide)) (fun c_158 => ?_)
  refine x_aload_n hE dX12_keep_161 rfl 3 rfl ?_
  refine h_getr hE hM rfl inZX12 0 (by decide) q1394 rfl dX12_keep_162 ?_
  refine x_iload_n hE dX12_keep_165 rfl 2 rfl ?_
  refine x_bipush (v := 8) hE dX12_keep_166 (by decide) ?_
  refine x_iadd hE dX12_keep_168 ?_
  refine x_norm (y := nI ((186 + (52 * s)) + 8)) (nI_add ((186 + (52 * s))) (8)) ?_
  refine x_iconst (v := 3) hE dX12_keep_169 (by decide) ?_
  refine x_iload_n hE dX12_keep_170 rfl 1 rfl ?_
  refine x_imul hE dX12_keep_171 ?_
  refine x_norm (y := 12) (by decide) ?_
  refine x_iadd hE dX12_keep_172 ?_
  refine x_norm (y := nI (((186 + (52 * s)) + 8) + 12)) (nI_add (((186 + (52 * s)) + 8)) (12)) ?_
  refine x_iload_n hE dX12_keep_173 rfl 0 rfl ?_
  refine x_iadd hE dX12_keep_174 ?_
  refine x_norm (y := nI ((((186 + (52 * s)) + 8) + 12) + 1)) (nI_add ((((186 + (52 * s)) + 8) + 12)) (1)) ?_
  refine x_aload_n hE dX12_keep_175 rfl 3 rfl ?_
  refine x_iload_n hE dX12_keep_176 rfl 1 rfl ?_
  refine x_iconst (v := 3) hE dX12_keep_177 (by decide) ?_
  refine x_iload_n hE dX12_keep_178 rfl 0 rfl ?_
  refine x_iadd hE dX12_keep_179 ?_
  refine x_norm (y := 4) (by decide) ?_
  refine c_ip hE (r_V (st := [.int (nI ((((186 + (52 * s)) + 8) + 12) + 1)), .ref (r 0)]) hE (m_fieldOf l D cy L σ φ ρ_183 4 4 hm (by omega) (by omega)) q1569 q1571 q39 q124 q1572 hM rfl ⟨by decide, by decide, pn_X12_fieldOf⟩ ⟨Nat.le_of_ble_eq_true rfl, Nat.le_of_ble_eq_true rfl⟩ ⟨Nat.le_of_ble_eq_true rfl, Nat.le_of_ble_eq_true rfl⟩ rfl (Nat.le_of_ble_eq_true rfl) dX12_keep_180) (fun r180 h_180 => ?_)
  refine x_widen (k' := 0) (n' := 0) (Nat.le_of_ble_eq_true rfl) (Nat.le_of_ble_eq_true rfl) ?_
  refine h_iastL (iN := ((((186 + (52 * s)) + 8) + 12) + 1)) hE hr0 (nI_clamp (by omega)) (nI_pos (by omega)) (by omega) dX12_keep_183 ?_
  refine x_rho (fun ρ_183 hρ_183 => ?_)
  have hk : ∀ j, j < 186 → ρ_183 (r 0) j = ρ (r 0) j := fun j hj => Eq.trans (by rw [hρ_183, va_up_self, pk_un (by omega)]) (hk j hj)
  refine x_iinc (v := 2) (lv' := [(3, .int 2), (2, .int 4), (1, .int (nI (186 + (52 * s)))), (0, .ref m)]) hE dX12_keep_184 0 rfl (by decide) (by decide) rfl ?_
  refine x_goto (tgt := 156) hE dX12_keep_187 (by decide) ?_
  refine x_iload_n hE dX12_keep_156 rfl 0 rfl ?_
  refine x_iconst (v := 3) hE dX12_keep_157 (by decide) ?_
  refine x_icmp_ge (tgt := 190) hE dX12_keep_158 (by decide) (fun c_158 => absurd c_158 (by decide)) (fun c_158 => ?_)
  refine x_aload_n hE dX12_keep_161 rfl 3 rfl ?_
  refine h_getr hE hM rfl inZX12 0 (by decide) q1394 rfl dX12_keep_162 ?_
  refine x_iload_n hE dX12_keep_165 rfl 2 rfl ?_
  refine x_bipush (v := 8) hE dX12_keep_166 (by decide) ?_
  refine x_iadd hE dX12_keep_168 ?_
  refine x_norm (y := nI ((186 + (52 * s)) + 8)) (nI_add ((186 + (52 * s))) (8)) ?_
  refine x_iconst (v := 3) hE dX12_keep_169 (by decide) ?_
  refine x_iload_n hE dX12_keep_170 rfl 1 rfl ?_
  refine x_imul hE dX12_keep_171 ?_
  refine x_norm (y := 12) (by decide) ?_
  refine x_iadd hE dX12_keep_172 ?_
  refine x_norm (y := nI (((186 + (52 * s)) + 8) + 12)) (nI_add (((186 + (52 * s)) + 8)) (12)) ?_
  refine x_iload_n hE dX12_keep_173 rfl 0 rfl ?_
  refine x_iadd hE dX12_keep_174 ?_
  refine x_norm (y := nI ((((186 + (52 * s)) + 8) + 12) + 2)) (nI_add ((((186 + (52 * s)) + 8) + 12)) (2)) ?_
  refine x_aload_n hE dX12_keep_175 rfl 3 rfl ?_
  refine x_iload_n hE dX12_keep_176 rfl 1 rfl ?_
  refine x_iconst (v := 3) hE dX12_keep_177 (by decide) ?_
  refine x_iload_n hE dX12_keep_178 rfl 0 rfl ?_
  refine x_iadd hE dX12_keep_179 ?_
  refine x_norm (y := 5) (by decide) ?_
  refine c_ip hE (r_V (st := [.int (nI ((((186 + (52 * s)) + 8) + 12) + 2)), .ref (r 0)]) hE (m_fieldOf l D cy L σ φ ρ_183 4 5 hm (by omega) (by omega)) q1569 q1571 q39 q124 q1572 hM rfl ⟨by decide, by decide, pn_X12_fieldOf⟩ ⟨Nat.le_of_ble_eq_true rfl, Nat.le_of_ble_eq_true rfl⟩ ⟨Nat.le_of_ble_eq_true rfl, Nat.le_of_ble_eq_true rfl⟩ rfl (Nat.le_of_ble_eq_true rfl) dX12_keep_180) (fun r180 h_180 => ?_)
  refine x_widen (k' := 0) (n' := 0) (Nat.le_of_ble_eq_true rfl) (Nat.le_of_ble_eq_true rfl) ?_
  refine h_iastL (iN := ((((186 + (52 * s)) + 8) + 12) + 2)) hE hr0 (nI_clamp (by omega)) (nI_pos (by omega)) (by omega) dX12_keep_183 ?_
  refine x_rho (fun ρ_183 hρ_183 => ?_)
  have hk : ∀ j, j < 186 → ρ_183 (r 0) j = ρ (r 0) j := fun j hj => Eq.trans (by rw [hρ_183, va_up_self, pk_un (by omega)]) (hk j hj)
  refine x_iinc (v := 3) (lv' := [(3, .int 3), (2, .int 4), (1, .int (nI (186 + (52 * s)))), (0, .ref m)]) hE dX12_keep_184 0 rfl (by decide) (by decide) rfl ?_
  refine x_goto (tgt := 156) hE dX12_keep_187 (by decide) ?_
  refine x_iload_n hE dX12_keep_156 rfl 0 rfl ?_
  refine x_iconst (v := 3) hE dX12_keep_157 (by decide) ?_
  refine x_icmp_ge (tgt := 190) hE dX12_keep_158 (by decide) (fun c_158 => ?_) (fun c_158 => absurd (by decide) c_158)
  refine x_iinc (v := 5) (lv' := [(2, .int 5), (3, .int 3), (1, .int (nI (186 + (52 * s)))), (0, .ref m)]) hE dX12_keep_190 1 rfl (by decide) (by decide) rfl ?_
  refine x_goto (tgt := 148) hE dX12_keep_193 (by decide) ?_
  refine x_iload_n hE dX12_keep_148 rfl 0 rfl ?_
  refine x_bipush (v := 6) hE dX12_keep_149 (by decide) ?_
  refine x_icmp_ge (tgt := 196) hE dX12_keep_151 (by decide) (fun c_151 => absurd c_151 (by decide)) (fun c_151 => ?_)
  refine x_iconst (v := 0) hE dX12_keep_154 (by decide) ?_
  refine x_istore_n (lv' := [(3, .int 0), (2, .int 5), (1, .int (nI (186 + (52 * s)))), (0, .ref m)]) hE dX12_keep_155 rfl (by decide) rfl ?_
  refine x_iload_n hE dX12_keep_156 rfl 0 rfl ?_
  refine x_iconst (v := 3) hE dX12_keep_157 (by decide) ?_
  refine x_icmp_ge (tgt := 190) hE dX12_keep_158 (by decide) (fun c_158 => absurd c_158 (by decide)) (fun c_158 => ?_)
  refine x_aload_n hE dX12_keep_161 rfl 3 rfl ?_
  refine h_getr hE hM rfl inZX12 0 (by decide) q1394 rfl dX12_keep_162 ?_
  refine x_iload_n hE dX12_keep_165 rfl 2 rfl ?_
  refine x_bipush (v := 8) hE dX12_keep_166 (by decide) ?_
  refine x_iadd hE dX12_keep_168 ?_
  refine x_norm (y := nI ((186 + (52 * s)) + 8)) (nI_add ((186 + (52 * s))) (8)) ?_
  refine x_iconst (v := 3) hE dX12_keep_169 (by decide) ?_
  refine x_iload_n hE dX12_keep_170 rfl 1 rfl ?_
  refine x_imul hE dX12_keep_171 ?_
  refine x_norm (y := 15) (by decide) ?_
  refine x_iadd hE dX12_keep_172 ?_
  refine x_norm (y := nI (((186 + (52 * s)) + 8) + 15)) (nI_add (((186 + (52 * s)) + 8)) (15)) ?_
  refine x_iload_n hE dX12_keep_173 rfl 0 rfl ?_
  refine x_iadd hE dX12_keep_174 ?_
  refine x_norm (y := nI ((((186 + (52 * s)) + 8) + 15) + 0)) (nI_add ((((186 + (52 * s)) + 8) + 15)) (0)) ?_
  refine x_aload_n hE dX12_keep_175 rfl 3 rfl ?_
  refine x_iload_n hE dX12_keep_176 rfl 1 rfl ?_
  refine x_iconst (v := 3) hE dX12_keep_177 (by decide) ?_
  refine x_iload_n hE dX12_keep_178 rfl 0 rfl ?_
  refine x_iadd hE dX12_keep_179 ?_
  refine x_norm (y := 3) (by decide) ?_
  refine c_ip hE (r_V (st := [.int (nI ((((186 + (52 * s)) + 8) + 15) + 0)), .ref (r 0)]) hE (m_fieldOf l D cy L σ φ ρ_183 5 3 hm (by omega) (by omega)) q1569 q1571 q39 q124 q1572 hM rfl ⟨by decide, by decide, pn_X12_fieldOf⟩ ⟨Nat.le_of_ble_eq_true rfl, Nat.le_of_ble_eq_true rfl⟩ ⟨Nat.le_of_ble_eq_true rfl, Nat.le_of_ble_eq_true rfl⟩ rfl (Nat.le_of_ble_eq_true rfl) dX12_keep_180) (fun r180 h_180 => ?_)
  refine x_widen (k' := 0) (n' := 0) (Nat.le_of_ble_eq_true rfl) (Nat.le_of_ble_eq_true rfl) ?_
  refine h_iastL (iN := ((((186 + (52 * s)) + 8) + 15) + 0)) hE hr0 (nI_clamp (by omega)) (nI_pos (by omega)) (by omega) dX12_keep_183 ?_
  refine x_rho (fun ρ_183 hρ_183 => ?_)
  have hk : ∀ j, j < 186 → ρ_183 (r 0) j = ρ (r 0) j := fun j hj => Eq.trans (by rw [hρ_183, va_up_self, pk_un (by omega)]) (hk j hj)
  refine x_iinc (v := 1) (lv' := [(3, .int 1), (2, .int 5), (1, .int (nI (186 + (52 * s)))), (0, .ref m)]) hE dX12_keep_184 0 rfl (by decide) (by decide) rfl ?_
  refine x_goto (tgt := 156) hE dX12_keep_187 (by decide) ?_
  refine x_iload_n hE dX12_keep_156 rfl 0 rfl ?_
  refine x_iconst (v := 3) hE dX12_keep_157 (by decide) ?_
  refine x_icmp_ge (tgt := 190) hE dX12_keep_158 (by decide) (fun c_158 => absurd c_158 (by decide)) (fun c_158 => ?_)
  refine x_aload_n hE dX12_keep_161 rfl 3 rfl ?_
  refine h_getr hE hM rfl inZX12 0 (by decide) q1394 rfl dX12_keep_162 ?_
  refine x_iload_n hE dX12_keep_165 rfl 2 rfl ?_
  refine x_bipush (v := 8) hE dX12_keep_166 (by decide) ?_
  refine x_iadd hE dX12_keep_168 ?_
  refine x_norm (y := nI ((186 + (52 * s)) + 8)) (nI_add ((186 + (52 * s))) (8)) ?_
  refine x_iconst (v := 3) hE dX12_keep_169 (by decide) ?_
  refine x_iload_n hE dX12_keep_170 rfl 1 rfl ?_
  refine x_imul hE dX12_keep_171 ?_
  refine x_norm (y := 15) (by decide) ?_
  refine x_iadd hE dX12_keep_172 ?_
  refine x_norm (y := nI (((186 + (52 * s)) + 8) + 15)) (nI_add (((186 + (52 * s)) + 8)) (15)) ?_
  refine x_iload_n hE dX12_keep_173 rfl 0 rfl ?_
  refine x_iadd hE dX12_keep_174 ?_
  refine x_norm (y := nI ((((186 + (52 * s)) + 8) + 15) + 1)) (nI_add ((((186 + (52 * s)) + 8) + 15)) (1)) ?_
  refine x_aload_n hE dX12_keep_175 rfl 3 rfl ?_
  refine x_iload_n hE dX12_keep_176 rfl 1 rfl ?_
  refine x_iconst (v := 3) hE dX12_keep_177 (by decide) ?_
  refine x_iload_n hE dX12_keep_178 rfl 0 rfl ?_
  refine x_iadd hE dX12_keep_179 ?_
  refine x_norm (y := 4) (by decide) ?_
  refine c_ip hE (r_V (st := [.int (nI ((((186 + (52 * s)) + 8) + 15) + 1)), .ref (r 0)]) hE (m_fieldOf l D cy L σ φ ρ_183 5 4 hm (by omega) (by omega)) q1569 q1571 q39 q124 q1572 hM rfl ⟨by decide, by decide, pn_X12_fieldOf⟩ ⟨Nat.le_of_ble_eq_true rfl, Nat.le_of_ble_eq_true rfl⟩ ⟨Nat.le_of_ble_eq_true rfl, Nat.le_of_ble_eq_true rfl⟩ rfl (Nat.le_of_ble_eq_true rfl) dX12_keep_180) (fun r180 h_180 => ?_)
  refine x_widen (k' := 0) (n' := 0) (Nat.le_of_ble_eq_true rfl) (Nat.le_of_ble_eq_true rfl) ?_
  refine h_iastL (iN := ((((186 + (52 * s)) + 8) + 15) + 1)) hE hr0 (nI_clamp (by omega)) (nI_pos (by omega)) (by omega) dX12_keep_183 ?_
  refine x_rho (fun ρ_183 hρ_183 => ?_)
  have hk : ∀ j, j < 186 → ρ_183 (r 0) j = ρ (r 0) j := fun j hj => Eq.trans (by rw [hρ_183, va_up_self, pk_un (by omega)]) (hk j hj)
  refine x_iinc (v := 2) (lv' := [(3, .int 2), (2, .int 5), (1, .int (nI (186 + (52 * s)))), (0, .ref m)]) hE dX12_keep_184 0 rfl (by decide) (by decide) rfl ?_
  refine x_goto (tgt := 156) hE dX12_keep_187 (by decide) ?_
  refine x_iload_n hE dX12_keep_156 rfl 0 rfl ?_
  refine x_iconst (v := 3) hE dX12_keep_157 (by decide) ?_
  refine x_icmp_ge (tgt := 190) hE dX12_keep_158 (by decide) (fun c_158 => absurd c_158 (by decide)) (fun c_158 => ?_)
  refine x_aload_n hE dX12_keep_161 rfl 3 rfl ?_
  refine h_getr hE hM rfl inZX12 0 (by decide) q1394 rfl dX12_keep_162 ?_
  refine x_iload_n hE dX12_keep_165 rfl 2 rfl ?_
  refine x_bipush (v := 8) hE dX12_keep_166 (by decide) ?_
  refine x_iadd hE dX12_keep_168 ?_
  refine x_norm (y := nI ((186 + (52 * s)) + 8)) (nI_add ((186 + (52 * s))) (8)) ?_
  refine x_iconst (v := 3) hE dX12_keep_169 (by decide) ?_
  refine x_iload_n hE dX12_keep_170 rfl 1 rfl ?_
  refine x_imul hE dX12_keep_171 ?_
  refine x_norm (y := 15) (by decide) ?_
  refine x_iadd hE dX12_keep_172 ?_
  refine x_norm (y := nI (((186 + (52 * s)) + 8) + 15)) (nI_add (((186 + (52 * s)) + 8)) (15)) ?_
  refine x_iload_n hE dX12_keep_173 rfl 0 rfl ?_
  refine x_iadd hE dX12_keep_174 ?_
  refine x_norm (y := nI ((((186 + (52 * s)) + 8) + 15) + 2)) (nI_add ((((186 + (52 * s)) + 8) + 15)) (2)) ?_
  refine x_aload_n hE dX12_keep_175 rfl 3 rfl ?_
  refine x_iload_n hE dX12_keep_176 rfl 1 rfl ?_
  refine x_iconst (v := 3) hE dX12_keep_177 (by decide) ?_
  refine x_iload_n hE dX12_keep_178 rfl 0 rfl ?_
  refine x_iadd hE dX12_keep_179 ?_
  refine x_norm (y := 5) (by decide) ?_
  refine c_ip hE (r_V (st := [.int (nI ((((186 + (52 * s)) + 8) + 15) + 2)), .ref (r 0)]) hE (m_fieldOf l D cy L σ φ ρ_183 5 5 hm (by omega) (by omega)) q1569 q1571 q39 q124 q1572 hM rfl ⟨by decide, by decide, pn_X12_fieldOf⟩ ⟨Nat.le_of_ble_eq_true rfl, Nat.le_of_ble_eq_true rfl⟩ ⟨Nat.le_of_ble_eq_true rfl, Nat.le_of_ble_eq_true rfl⟩ rfl (Nat.le_of_ble_eq_true rfl) dX12_keep_180) (fun r180 h_180 => ?_)
  refine x_widen (k' := 0) (n' := 0) (Nat.le_of_ble_eq_true rfl) (Nat.le_of_ble_eq_true rfl) ?_
  refine h_iastL (iN := ((((186 + (52 * s)) + 8) + 15) + 2)) hE hr0 (nI_clamp (by omega)) (nI_pos (by omega)) (by omega) dX12_keep_183 ?_
  refine x_rho (fun ρ_183 hρ_183 => ?_)
  have hk : ∀ j, j < 186 → ρ_183 (r 0) j = ρ (r 0) j := fun j hj => Eq.trans (by rw [hρ_183, va_up_self, pk_un (by omega)]) (hk j hj)
  refine x_iinc (v := 3) (lv' := [(3, .int 3), (2, .int 5), (1, .int (nI (186 + (52 * s)))), (0, .ref m)]) hE dX12_keep_184 0 rfl (by decide) (by decide) rfl ?_
  refine x_goto (tgt := 156) hE dX12_keep_187 (by decide) ?_
  refine x_iload_n hE dX12_keep_156 rfl 0 rfl ?_
  refine x_iconst (v := 3) hE dX12_keep_157 (by decide) ?_
  refine x_icmp_ge (tgt := 190) hE dX12_keep_158 (by decide) (fun c_158 => ?_) (fun c_158 => absurd (by decide) c_158)
  refine x_iinc (v := 6) (lv' := [(2, .int 6), (3, .int 3), (1, .int (nI (186 + (52 * s)))), (0, .ref m)]) hE dX12_keep_190 1 rfl (by decide) (by decide) rfl ?_
  refine x_goto (tgt := 148) hE dX12_keep_193 (by decide) ?_
  refine x_iload_n hE dX12_keep_148 rfl 0 rfl ?_
  refine x_bipush (v := 6) hE dX12_keep_149 (by decide) ?_
  refine x_icmp_ge (tgt := 196) hE dX12_keep_151 (by decide) (fun c_151 => ?_) (fun c_151 => absurd (by decide) c_151)
  refine x_iconst (v := 0) hE dX12_keep_196 (by decide) ?_
  refine x_istore_n (lv' := [(2, .int 0), (3, .int 3), (1, .int (nI (186 + (52 * s)))), (0, .ref m)]) hE dX12_keep_197 rfl (by decide) rfl ?_
  refine x_iload_n hE dX12_keep_198 rfl 0 rfl ?_
  refine x_bipush (v := 8) hE dX12_keep_199 (by decide) ?_
  refine x_icmp_ge (tgt := 246) hE dX12_keep_201 (by decide) (fun c_201 => absurd c_201 (by decide)) (fun c_201 => ?_)
  refine x_iconst (v := 0) hE dX12_keep_204 (by decide) ?_
  refine x_istore_n (lv' := [(3, .int 0), (2, .int 0), (1, .int (nI (186 + (52 * s)))), (0, .ref m)]) hE dX12_keep_205 rfl (by decide) rfl ?_
  refine x_iload_n hE dX12_keep_206 rfl 0 rfl ?_
  refine x_iconst (v := 3) hE dX12_keep_207 (by decide) ?_
  refine x_icmp_ge (tgt := 240) hE dX12_keep_208 (by decide) (fun c_208 => absurd c_208 (by decide)) (fun c_208 => ?_)
  refine x_aload_n hE dX12_keep_211 rfl 3 rfl ?_
  refine h_getr hE hM rfl inZX12 0 (by decide) q1394 rfl dX12_keep_212 ?_
  refine x_iload_n hE dX12_keep_215 rfl 2 rfl ?_
  refine x_bipush (v := 26) hE dX12_keep_216 (by decide) ?_
  refine x_iadd hE dX12_keep_218 ?_
  refine x_norm (y := nI ((186 + (52 * s)) + 26)) (nI_add ((186 + (52 * s))) (26)) ?_
  refine x_iconst (v := 3) hE dX12_keep_219 (by decide) ?_
  refine x_iload_n hE dX12_keep_220 rfl 1 rfl ?_
  refine x_imul hE dX12_keep_221 ?_
  refine x_norm (y := 0) (by decide) ?_
  refine x_iadd hE dX12_keep_222 ?_
  refine x_norm (y := nI (((186 + (52 * s)) + 26) + 0)) (nI_add (((186 + (52 * s)) + 26)) (0)) ?_
  refine x_iload_n hE dX12_keep_223 rfl 0 rfl ?_
  refine x_iadd hE dX12_keep_224 ?_
  refine x_norm (y := nI ((((186 + (52 * s)) + 26) + 0) + 0)) (nI_add ((((186 + (52 * s)) + 26) + 0)) (0)) ?_
  refine x_aload_n hE dX12_keep_225 rfl 3 rfl ?_
  refine x_iload_n hE dX12_keep_226 rfl 1 rfl ?_
  refine x_iconst (v := 2) hE dX12_keep_227 (by decide) ?_
  refine x_iload_n hE dX12_keep_228 rfl 0 rfl ?_
  refine x_iadd hE dX12_keep_229 ?_
  refine x_norm (y := 2) (by decide) ?_
  refine c_ip hE (r_V (st := [.int (nI ((((186 + (52 * s)) + 26) + 0) + 0)), .ref (r 0)]) hE (m_get l D cy L σ φ ρ_183 0 2 hm (by omega) (by omega)) q1753 q1755 q70 q124 q1756 hM rfl ⟨by decide, by decide, pn_X12_get⟩ ⟨Nat.le_of_ble_eq_true rfl, Nat.le_of_ble_eq_true rfl⟩ ⟨Nat.le_of_ble_eq_true rfl, Nat.le_of_ble_eq_true rfl⟩ rfl (Nat.le_of_ble_eq_true rfl) dX12_keep_230) (fun r230 h_230 => ?_)
  refine x_widen (k' := 0) (n' := 0) (Nat.le_of_ble_eq_true rfl) (Nat.le_of_ble_eq_true rfl) ?_
  refine h_iastL (iN := ((((186 + (52 * s)) + 26) + 0) + 0)) hE hr0 (nI_clamp (by omega)) (nI_pos (by omega)) (by omega) dX12_keep_233 ?_
  refine x_rho (fun ρ_233 hρ_233 => ?_)
  have hk : ∀ j, j < 186 → ρ_233 (r 0) j = ρ (r 0) j := fun j hj => Eq.trans (by rw [hρ_233, va_up_self, pk_un (by omega)]) (hk j hj)
  refine x_iinc (v := 1) (lv' := [(3, .int 1), (2, .int 0), (1, .int (nI (186 + (52 * s)))), (0, .ref m)]) hE dX12_keep_234 0 rfl (by decide) (by decide) rfl ?_
  refine x_goto (tgt := 206) hE dX12_keep_237 (by decide) ?_
  refine x_iload_n hE dX12_keep_206 rfl 0 rfl ?_
  refine x_iconst (v := 3) hE dX12_keep_207 (by decide) ?_
  refine x_icmp_ge (tgt := 240) hE dX12_keep_208 (by decide) (fun c_208 => absurd c_208 (by decide)) (fun c_208 => ?_)
  refine x_aload_n hE dX12_keep_211 rfl 3 rfl ?_
  refine h_getr hE hM rfl inZX12 0 (by decide) q1394 rfl dX12_keep_212 ?_
  refine x_iload_n hE dX12_keep_215 rfl 2 rfl ?_
  refine x_bipush (v := 26) hE dX12_keep_216 (by decide) ?_
  refine x_iadd hE dX12_keep_218 ?_
  refine x_norm (y := nI ((186 + (52 * s)) + 26)) (nI_add ((186 + (52 * s))) (26)) ?_
  refine x_iconst (v := 3) hE dX12_keep_219 (by decide) ?_
  refine x_iload_n hE dX12_keep_220 rfl 1 rfl ?_
  refine x_imul hE dX12_keep_221 ?_
  refine x_norm (y := 0) (by decide) ?_
  refine x_iadd hE dX12_keep_222 ?_
  refine x_norm (y := nI (((186 + (52 * s)) + 26) + 0)) (nI_add (((186 + (52 * s)) + 26)) (0)) ?_
  refine x_iload_n hE dX12_keep_223 rfl 0 rfl ?_
  refine x_iadd hE dX12_keep_224 ?_
  refine x_norm (y := nI ((((186 + (52 * s)) + 26) + 0) + 1)) (nI_add ((((186 + (52 * s)) + 26) + 0)) (1)) ?_
  refine x_aload_n hE dX12_keep_225 rfl 3 rfl ?_
  refine x_iload_n hE dX12_keep_226 rfl 1 rfl ?_
  refine x_iconst (v := 2) hE dX12_keep_227 (by decide) ?_
  refine x_iload_n hE dX12_keep_228 rfl 0 rfl ?_
  refine x_iadd hE dX12_keep_229 ?_
  refine x_norm (y := 3) (by decide) ?_
  refine c_ip hE (r_V (st := [.int (nI ((((186 + (52 * s)) + 26) + 0) + 1)), .ref (r 0)]) hE (m_get l D cy L σ φ ρ_233 0 3 hm (by omega) (by omega)) q1753 q1755 q70 q124 q1756 hM rfl ⟨by decide, by decide, pn_X12_get⟩ ⟨Nat.le_of_ble_eq_true rfl, Nat.le_of_ble_eq_true rfl⟩ ⟨Nat.le_of_ble_eq_true rfl, Nat.le_of_ble_eq_true rfl⟩ rfl (Nat.le_of_ble_eq_true rfl) dX12_keep_230) (fun r230 h_230 => ?_)
  refine x_widen (k' := 0) (n' := 0) (Nat.le_of_ble_eq_true rfl) (Nat.le_of_ble_eq_true rfl) ?_
  refine h_iastL (iN := ((((186 + (52 * s)) + 26) + 0) + 1)) hE hr0 (nI_clamp (by omega)) (nI_pos (by omega)) (by omega) dX12_keep_233 ?_
  refine x_rho (fun ρ_233 hρ_233 => ?_)
  have hk : ∀ j, j < 186 → ρ_233 (r 0) j = ρ (r 0) j := fun j hj => Eq.trans (by rw [hρ_233, va_up_self, pk_un (by omega)]) (hk j hj)
  refine x_iinc (v := 2) (lv' := [(3, .int 2), (2, .int 0), (1, .int (nI (186 + (52 * s)))), (0, .ref m)]) hE dX12_keep_234 0 rfl (by decide) (by decide) rfl ?_
  refine x_goto (tgt := 206) hE dX12_keep_237 (by decide) ?_
  refine x_iload_n hE dX12_keep_206 rfl 0 rfl ?_
  refine x_iconst (v := 3) hE dX12_keep_207 (by decide) ?_
  refine x_icmp_ge (tgt := 240) hE dX12_keep_208 (by decide) (fun c_208 => absurd c_208 (by decide)) (fun c_208 => ?_)
  refine x_aload_n hE dX12_keep_211 rfl 3 rfl ?_
  refine h_getr hE hM rfl inZX12 0 (by decide) q1394 rfl dX12_keep_212 ?_
  refine x_iload_n hE dX12_keep_215 rfl 2 rfl ?_
  refine x_bipush (v := 26) hE dX12_keep_216 (by decide) ?_
  refine x_iadd hE dX12_keep_218 ?_
  refine x_norm (y := nI ((186 + (52 * s)) + 26)) (nI_add ((186 + (52 * s))) (26)) ?_
  refine x_iconst (v := 3) hE dX12_keep_219 (by decide) ?_
  refine x_iload_n hE dX12_keep_220 rfl 1 rfl ?_
  refine x_imul hE dX12_keep_221 ?_
  refine x_norm (y := 0) (by decide) ?_
  refine x_iadd hE dX12_keep_222 ?_
  refine x_norm (y := nI (((186 + (52 * s)) + 26) + 0)) (nI_add (((186 + (52 * s)) + 26)) (0)) ?_
  refine x_iload_n hE dX12_keep_223 rfl 0 rfl ?_
  refine x_iadd hE dX12_keep_224 ?_
  refine x_norm (y := nI ((((186 + (52 * s)) + 26) + 0) + 2)) (nI_add ((((186 + (52 * s)) + 26) + 0)) (2)) ?_
  refine x_aload_n hE dX12_keep_225 rfl 3 rfl ?_
  refine x_iload_n hE dX12_keep_226 rfl 1 rfl ?_
  refine x_iconst (v := 2) hE dX12_keep_227 (by decide) ?_
  refine x_iload_n hE dX12_keep_228 rfl 0 rfl ?_
  refine x_iadd hE dX12_keep_229 ?_
  refine x_norm (y := 4) (by decide) ?_
  refine c_ip hE (r_V (st := [.int (nI ((((186 + (52 * s)) + 26) + 0) + 2)), .ref (r 0)]) hE (m_get l D cy L σ φ ρ_233 0 4 hm (by omega) (by omega)) q1753 q1755 q70 q124 q1756 hM rfl ⟨by decide, by decide, pn_X12_get⟩ ⟨Nat.le_of_ble_eq_true rfl, Nat.le_of_ble_eq_true rfl⟩ ⟨Nat.le_of_ble_eq_true rfl, Nat.le_of_ble_eq_true rfl⟩ rfl (Nat.le_of_ble_eq_true rfl) dX12_keep_230) (fun r230 h_230 => ?_)
  refine x_widen (k' := 0) (n' := 0) (Nat.le_of_ble_eq_true rfl) (Nat.le_of_ble_eq_true rfl) ?_
  refine h_iastL (iN := ((((186 + (52 * s)) + 26) + 0) + 2)) hE hr0 (nI_clamp (by omega)) (nI_pos (by omega)) (by omega) dX12_keep_233 ?_
  refine x_rho (fun ρ_233 hρ_233 => ?_)
  have hk : ∀ j, j < 186 → ρ_233 (r 0) j = ρ (r 0) j := fun j hj => Eq.trans (by rw [hρ_233, va_up_self, pk_un (by omega)]) (hk j hj)
  refine x_iinc (v := 3) (lv' := [(3, .int 3), (2, .int 0), (1, .int (nI (186 + (52 * s)))), (0, .ref m)]) hE dX12_keep_234 0 rfl (by decide) (by decide) rfl ?_
  refine x_goto (tgt := 206) hE dX12_keep_237 (by decide) ?_
  refine x_iload_n hE dX12_keep_206 rfl 0 rfl ?_
  refine x_iconst (v := 3) hE dX12_keep_207 (by decide) ?_
  refine x_icmp_ge (tgt := 240) hE dX12_keep_208 (by decide) (fun c_208 => ?_) (fun c_208 => absurd (by decide) c_208)
  refine x_iinc (v := 1) (lv' := [(2, .int 1), (3, .int 3), (1, .int (nI (186 + (52 * s)))), (0, .ref m)]) hE dX12_keep_240 1 rfl (by decide) (by decide) rfl ?_
  refine x_goto (tgt := 198) hE dX12_keep_243 (by decide) ?_
  refine x_iload_n hE dX12_keep_198 rfl 0 rfl ?_
  refine x_bipush (v := 8) hE dX12_keep_199 (by decide) ?_
  refine x_icmp_ge (tgt := 246) hE dX12_keep_201 (by decide) (fun c_201 => absurd c_201 (by decide)) (fun c_201 => ?_)
  refine x_iconst (v := 0) hE dX12_keep_204 (by decide) ?_
  refine x_istore_n (lv' := [(3, .int 0), (2, .int 1), (1, .int (nI (186 + (52 * s)))), (0, .ref m)]) hE dX12_keep_205 rfl (by decide) rfl ?_
  refine x_iload_n hE dX12_keep_206 rfl 0 rfl ?_
  refine x_iconst (v := 3) hE dX12_keep_207 (by decide) ?_
  refine x_icmp_ge (tgt := 240) hE dX12_keep_208 (by decide) (fun c_208 => absurd c_208 (by decide)) (fun c_208 => ?_)
  refine x_aload_n hE dX12_keep_211 rfl 3 rfl ?_
  refine h_getr hE hM rfl inZX12 0 (by decide) q1394 rfl dX12_keep_212 ?_
  refine x_iload_n hE dX12_keep_215 rfl 2 rfl ?_
  refine x_bipush (v := 26) hE dX12_keep_216 (by decide) ?_
  refine x_iadd hE dX12_keep_218 ?_
  refine x_norm (y := nI ((186 + (52 * s)) + 26)) (nI_add ((186 + (52 * s))) (26)) ?_
  refine x_iconst (v := 3) hE dX12_keep_219 (by decide) ?_
  refine x_iload_n hE dX12_keep_220 rfl 1 rfl ?_
  refine x_imul hE dX12_keep_221 ?_
  refine x_norm (y := 3) (by decide) ?_
  refine x_iadd hE dX12_keep_222 ?_
  refine x_norm (y := nI (((186 + (52 * s)) + 26) + 3)) (nI_add (((186 + (52 * s)) + 26)) (3)) ?_
  refine x_iload_n hE dX12_keep_223 rfl 0 rfl ?_
  refine x_iadd hE dX12_keep_224 ?_
  refine x_norm (y := nI ((((186 + (52 * s)) + 26) + 3) + 0)) (nI_add ((((186 + (52 * s)) + 26) + 3)) (0)) ?_
  refine x_aload_n hE dX12_keep_225 rfl 3 rfl ?_
  refine x_iload_n hE dX12_keep_226 rfl 1 rfl ?_
  refine x_iconst (v := 2) hE dX12_keep_227 (by decide) ?_
  refine x_iload_n hE dX12_keep_228 rfl 0 rfl ?_
  refine x_iadd hE dX12_keep_229 ?_
  refine x_norm (y := 2) (by decide) ?_
  refine c_ip hE (r_V (st := [.int (nI ((((186 + (52 * s)) + 26) + 3) + 0)), .ref (r 0)]) hE (m_get l D cy L σ φ ρ_233 1 2 hm (by omega) (by omega)) q1753 q1755 q70 q124 q1756 hM rfl ⟨by decide, by decide, pn_X12_get⟩ ⟨Nat.le_of_ble_eq_true rfl, Nat.le_of_ble_eq_true rfl⟩ ⟨Nat.le_of_ble_eq_true rfl, Nat.le_of_ble_eq_true rfl⟩ rfl (Nat.le_of_ble_eq_true rfl) dX12_keep_230) (fun r230 h_230 => ?_)
  refine x_widen (k' := 0) (n' := 0) (Nat.le_of_ble_eq_true rfl) (Nat.le_of_ble_eq_true rfl) ?_
  refine h_iastL (iN := ((((186 + (52 * s)) + 26) + 3) + 0)) hE hr0 (nI_clamp (by omega)) (nI_pos (by omega)) (by omega) dX12_keep_233 ?_
  refine x_rho (fun ρ_233 hρ_233 => ?_)
  have hk : ∀ j, j < 186 → ρ_233 (r 0) j = ρ (r 0) j := fun j hj => Eq.trans (by rw [hρ_233, va_up_self, pk_un (by omega)]) (hk j hj)
  refine x_iinc (v := 1) (lv' := [(3, .int 1), (2, .int 1), (1, .int (nI (186 + (52 * s)))), (0, .ref m)]) hE dX12_keep_234 0 rfl (by decide) (by decide) rfl ?_
  refine x_goto (tgt := 206) hE dX12_keep_237 (by decide) ?_
  refine x_iload_n hE dX12_keep_206 rfl 0 rfl ?_
  refine x_iconst (v := 3) hE dX12_keep_207 (by decide) ?_
  refine x_icmp_ge (tgt := 240) hE dX12_keep_208 (by decide) (fun c_208 => absurd c_208 (by decide)) (fun c_208 => ?_)
  refine x_aload_n hE dX12_keep_211 rfl 3 rfl ?_
  refine h_getr hE hM rfl inZX12 0 (by decide) q1394 rfl dX12_keep_212 ?_
  refine x_iload_n hE dX12_keep_215 rfl 2 rfl ?_
  refine x_bipush (v := 26) hE dX12_keep_216 (by decide) ?_
  refine x_iadd hE dX12_keep_218 ?_
  refine x_norm (y := nI ((186 + (52 * s)) + 26)) (nI_add ((186 + (52 * s))) (26)) ?_
  refine x_iconst (v := 3) hE dX12_keep_219 (by decide) ?_
  refine x_iload_n hE dX12_keep_220 rfl 1 rfl ?_
  refine x_imul hE dX12_keep_221 ?_
  refine x_norm (y := 3) (by decide) ?_
  refine x_iadd hE dX12_keep_222 ?_
  refine x_norm (y := nI (((186 + (52 * s)) + 26) + 3)) (nI_add (((186 + (52 * s)) + 26)) (3)) ?_
  refine x_iload_n hE dX12_keep_223 rfl 0 rfl ?_
  refine x_iadd hE dX12_keep_224 ?_
  refine x_norm (y := nI ((((186 + (52 * s)) + 26) + 3) + 1)) (nI_add ((((186 + (52 * s)) + 26) + 3)) (1)) ?_
  refine x_aload_n hE dX12_keep_225 rfl 3 rfl ?_
  refine x_iload_n hE dX12_keep_226 rfl 1 rfl ?_
  refine x_iconst (v := 2) hE dX12_keep_227 (by decide) ?_
  refine x_iload_n hE dX12_keep_228 rfl 0 rfl ?_
  refine x_iadd hE dX12_keep_229 ?_
  refine x_norm (y := 3) (by decide) ?_
  refine c_ip hE (r_V (st := [.int (nI ((((186 + (52 * s)) + 26) + 3) + 1)), .ref (r 0)]) hE (m_get l D cy L σ φ ρ_233 1 3 hm (by omega) (by omega)) q1753 q1755 q70 q124 q1756 hM rfl ⟨by decide, by decide, pn_X12_get⟩ ⟨Nat.le_of_ble_eq_true rfl, Nat.le_of_ble_eq_true rfl⟩ ⟨Nat.le_of_ble_eq_true rfl, Nat.le_of_ble_eq_true rfl⟩ rfl (Nat.le_of_ble_eq_true rfl) dX12_keep_230) (fun r230 h_230 => ?_)
  refine x_widen (k' := 0) (n' := 0) (Nat.le_of_ble_eq_true rfl) (Nat.le_of_ble_eq_true rfl) ?_
  refine h_iastL (iN := ((((186 + (52 * s)) + 26) + 3) + 1)) hE hr0 (nI_clamp (by omega)) (nI_pos (by omega)) (by omega) dX12_keep_233 ?_
  refine x_rho (fun ρ_233 hρ_233 => ?_)
  have hk : ∀ j, j < 186 → ρ_233 (r 0) j = ρ (r 0) j := fun j hj => Eq.trans (by rw [hρ_233, va_up_self, pk_un (by omega)]) (hk j hj)
  refine x_iinc (v := 2) (lv' := [(3, .int 2), (2, .int 1), (1, .int (nI (186 + (52 * s)))), (0, .ref m)]) hE dX12_keep_234 0 rfl (by decide) (by decide) rfl ?_
  refine x_goto (tgt := 206) hE dX12_keep_237 (by decide) ?_
  refine x_iload_n hE dX12_keep_206 rfl 0 rfl ?_
  refine x_iconst (v := 3) hE dX12_keep_207 (by decide) ?_
  refine x_icmp_ge (tgt := 240) hE dX12_keep_208 (by decide) (fun c_208 => absurd c_208 (by decide)) (fun c_208 => ?_)
  refine x_aload_n hE dX12_keep_211 rfl 3 rfl ?_
  refine h_getr hE hM rfl inZX12 0 (by decide) q1394 rfl dX12_keep_212 ?_
  refine x_iload_n hE dX12_keep_215 rfl 2 rfl ?_
  refine x_bipush (v := 26) hE dX12_keep_216 (by decide) ?_
  refine x_iadd hE dX12_keep_218 ?_
  refine x_norm (y := nI ((186 + (52 * s)) + 26)) (nI_add ((186 + (52 * s))) (26)) ?_
  refine x_iconst (v := 3) hE dX12_keep_219 (by decide) ?_
  refine x_iload_n hE dX12_keep_220 rfl 1 rfl ?_
  refine x_imul hE dX12_keep_221 ?_
  refine x_norm (y := 3) (by decide) ?_
  refine x_iadd hE dX12_keep_222 ?_
  refine x_norm (y := nI (((186 + (52 * s)) + 26) + 3)) (nI_add (((186 + (52 * s)) + 26)) (3)) ?_
  refine x_iload_n hE dX12_keep_223 rfl 0 rfl ?_
  refine x_iadd hE dX12_keep_224 ?_
  refine x_norm (y := nI ((((186 + (52 * s)) + 26) + 3) + 2)) (nI_add ((((186 + (52 * s)) + 26) + 3)) (2)) ?_
  refine x_aload_n hE dX12_keep_225 rfl 3 rfl ?_
  refine x_iload_n hE dX12_keep_226 rfl 1 rfl ?_
  refine x_iconst (v := 2) hE dX12_keep_227 (by decide) ?_
  refine x_iload_n hE dX12_keep_228 rfl 0 rfl ?_
  refine x_iadd hE dX12_keep_229 ?_
  refine x_norm (y := 4) (by decide) ?_
  refine c_ip hE (r_V (st := [.int (nI ((((186 + (52 * s)) + 26) + 3) + 2)), .ref (r 0)]) hE (m_get l D cy L σ φ ρ_233 1 4 hm (by omega) (by omega)) q1753 q1755 q70 q124 q1756 hM rfl ⟨by decide, by decide, pn_X12_get⟩ ⟨Nat.le_of_ble_eq_true rfl, Nat.le_of_ble_eq_true rfl⟩ ⟨Nat.le_of_ble_eq_true rfl, Nat.le_of_ble_eq_true rfl⟩ rfl (Nat.le_of_ble_eq_true rfl) dX12_keep_230) (fun r230 h_230 => ?_)
  refine x_widen (k' := 0) (n' := 0) (Nat.le_of_ble_eq_true rfl) (Nat.le_of_ble_eq_true rfl) ?_
  refine h_iastL (iN := ((((186 + (52 * s)) + 26) + 3) + 2)) hE hr0 (nI_clamp (by omega)) (nI_pos (by omega)) (by omega) dX12_keep_233 ?_
  refine x_rho (fun ρ_233 hρ_233 => ?_)
  have hk : ∀ j, j < 186 → ρ_233 (r 0) j = ρ (r 0) j := fun j hj => Eq.trans (by rw [hρ_233, va_up_self, pk_un (by omega)]) (hk j hj)
  refine x_iinc (v := 3) (lv' := [(3, .int 3), (2, .int 1), (1, .int (nI (186 + (52 * s)))), (0, .ref m)]) hE dX12_keep_234 0 rfl (by decide) (by decide) rfl ?_
  refine x_goto (tgt := 206) hE dX12_keep_237 (by decide) ?_
  refine x_iload_n hE dX12_keep_206 rfl 0 rfl ?_
  refine x_iconst (v := 3) hE dX12_keep_207 (by decide) ?_
  refine x_icmp_ge (tgt := 240) hE dX12_keep_208 (by decide) (fun c_208 => ?_) (fun c_208 => absurd (by decide) c_208)
  refine x_iinc (v := 2) (lv' := [(2, .int 2), (3, .int 3), (1, .int (nI (186 + (52 * s)))), (0, .ref m)]) hE dX12_keep_240 1 rfl (by decide) (by decide) rfl ?_
  refine x_goto (tgt := 198) hE dX12_keep_243 (by decide) ?_
  refine x_iload_n hE dX12_keep_198 rfl 0 rfl ?_
  refine x_bipush (v := 8) hE dX12_keep_199 (by decide) ?_
  refine x_icmp_ge (tgt := 246) hE dX12_keep_201 (by decide) (fun c_201 => absurd c_201 (by decide)) (fun c_201 => ?_)
  refine x_iconst (v := 0) hE dX12_keep_204 (by decide) ?_
  refine x_istore_n (lv' := [(3, .int 0), (2, .int 2), (1, .int (nI (186 + (52 * s)))), (0, .ref m)]) hE dX12_keep_205 rfl (by decide) rfl ?_
  refine x_iload_n hE dX12_keep_206 rfl 0 rfl ?_
  refine x_iconst (v := 3) hE dX12_keep_207 (by decide) ?_
  refine x_icmp_ge (tgt := 240) hE dX12_keep_208 (by decide) (fun c_208 => absurd c_208 (by decide)) (fun c_208 => ?_)
  refine x_aload_n hE dX12_keep_211 rfl 3 rfl ?_
  refine h_getr hE hM rfl inZX12 0 (by decide) q1394 rfl dX12_keep_212 ?_
  refine x_iload_n hE dX12_keep_215 rfl 2 rfl ?_
  refine x_bipush (v := 26) hE dX12_keep_216 (by decide) ?_
  refine x_iadd hE dX12_keep_218 ?_
  refine x_norm (y := nI ((186 + (52 * s)) + 26)) (nI_add ((186 + (52 * s))) (26)) ?_
  refine x_iconst (v := 3) hE dX12_keep_219 (by decide) ?_
  refine x_iload_n hE dX12_keep_220 rfl 1 rfl ?_
  refine x_imul hE dX12_keep_221 ?_
  refine x_norm (y := 6) (by decide) ?_
  refine x_iadd hE dX12_keep_222 ?_
  refine x_norm (y := nI (((186 + (52 * s)) + 26) + 6)) (nI_add (((186 + (52 * s)) + 26)) (6)) ?_
  refine x_iload_n hE dX12_keep_223 rfl 0 rfl ?_
  refine x_iadd hE dX12_keep_224 ?_
  refine x_norm (y := nI ((((186 + (52 * s)) + 26) + 6) + 0)) (nI_add ((((186 + (52 * s)) + 26) + 6)) (0)) ?_
  refine x_aload_n hE dX12_keep_225 rfl 3 rfl ?_
  refine x_iload_n hE dX12_keep_226 rfl 1 rfl ?_
  refine x_iconst (v := 2) hE dX12_keep_227 (by decide) ?_
  refine x_iload_n hE dX12_keep_228 rfl 0 rfl ?_
  refine x_iadd hE dX12_keep_229 ?_
  refine x_norm (y := 2) (by decide) ?_
  refine c_ip hE (r_V (st := [.int (nI ((((186 + (52 * s)) + 26) + 6) + 0)), .ref (r 0)]) hE (m_get l D cy L σ φ ρ_233 2 2 hm (by omega) (by omega)) q1753 q1755 q70 q124 q1756 hM rfl ⟨by decide, by decide, pn_X12_get⟩ ⟨Nat.le_of_ble_eq_true rfl, Nat.le_of_ble_eq_true rfl⟩ ⟨Nat.le_of_ble_eq_true rfl, Nat.le_of_ble_eq_true rfl⟩ rfl (Nat.le_of_ble_eq_true rfl) dX12_keep_230) (fun r230 h_230 => ?_)
  refine x_widen (k' := 0) (n' := 0) (Nat.le_of_ble_eq_true rfl) (Nat.le_of_ble_eq_true rfl) ?_
  refine h_iastL (iN := ((((186 + (52 * s)) + 26) + 6) + 0)) hE hr0 (nI_clamp (by omega)) (nI_pos (by omega)) (by omega) dX12_keep_233 ?_
  refine x_rho (fun ρ_233 hρ_233 => ?_)
  have hk : ∀ j, j < 186 → ρ_233 (r 0) j = ρ (r 0) j := fun j hj => Eq.trans (by rw [hρ_233, va_up_self, pk_un (by omega)]) (hk j hj)
  refine x_iinc (v := 1) (lv' := [(3, .int 1), (2, .int 2), (1, .int (nI (186 + (52 * s)))), (0, .ref m)]) hE dX12_keep_234 0 rfl (by decide) (by decide) rfl ?_
  refine x_goto (tgt := 206) hE dX12_keep_237 (by decide) ?_
  refine x_iload_n hE dX12_keep_206 rfl 0 rfl ?_
  refine x_iconst (v := 3) hE dX12_keep_207 (by decide) ?_
  refine x_icmp_ge (tgt := 240) hE dX12_keep_208 (by decide) (fun c_208 => absurd c_208 (by decide)) (fun c_208 => ?_)
  refine x_aload_n hE dX12_keep_211 rfl 3 rfl ?_
  refine h_getr hE hM rfl inZX12 0 (by decide) q1394 rfl dX12_keep_212 ?_
  refine x_iload_n hE dX12_keep_215 rfl 2 rfl ?_
  refine x_bipush (v := 26) hE dX12_keep_216 (by decide) ?_
  refine x_iadd hE dX12_keep_218 ?_
  refine x_norm (y := nI ((186 + (52 * s)) + 26)) (nI_add ((186 + (52 * s))) (26)) ?_
  refine x_iconst (v := 3) hE dX12_keep_219 (by decide) ?_
  refine x_iload_n hE dX12_keep_220 rfl 1 rfl ?_
  refine x_imul hE dX12_keep_221 ?_
  refine x_norm (y := 6) (by decide) ?_
  refine x_iadd hE dX12_keep_222 ?_
  refine x_norm (y := nI (((186 + (52 * s)) + 26) + 6)) (nI_add (((186 + (52 * s)) + 26)) (6)) ?_
  refine x_iload_n hE dX12_keep_223 rfl 0 rfl ?_
  refine x_iadd hE dX12_keep_224 ?_
  refine x_norm (y := nI ((((186 + (52 * s)) + 26) + 6) + 1)) (nI_add ((((186 + (52 * s)) + 26) + 6)) (1)) ?_
  refine x_aload_n hE dX12_keep_225 rfl 3 rfl ?_
  refine x_iload_n hE dX12_keep_226 rfl 1 rfl ?_
  refine x_iconst (v := 2) hE dX12_keep_227 (by decide) ?_
  refine x_iload_n hE dX12_keep_228 rfl 0 rfl ?_
  refine x_iadd hE dX12_keep_229 ?_
  refine x_norm (y := 3) (by decide) ?_
  refine c_ip hE (r_V (st := [.int (nI ((((186 + (52 * s)) + 26) + 6) + 1)), .ref (r 0)]) hE (m_get l D cy L σ φ ρ_233 2 3 hm (by omega) (by omega)) q1753 q1755 q70 q124 q1756 hM rfl ⟨by decide, by decide, pn_X12_get⟩ ⟨Nat.le_of_ble_eq_true rfl, Nat.le_of_ble_eq_true rfl⟩ ⟨Nat.le_of_ble_eq_true rfl, Nat.le_of_ble_eq_true rfl⟩ rfl (Nat.le_of_ble_eq_true rfl) dX12_keep_230) (fun r230 h_230 => ?_)
  refine x_widen (k' := 0) (n' := 0) (Nat.le_of_ble_eq_true rfl) (Nat.le_of_ble_eq_true rfl) ?_
  refine h_iastL (iN := ((((186 + (52 * s)) + 26) + 6) + 1)) hE hr0 (nI_clamp (by omega)) (nI_pos (by omega)) (by omega) dX12_keep_233 ?_
  refine x_rho (fun ρ_233 hρ_233 => ?_)
  have hk : ∀ j, j < 186 → ρ_233 (r 0) j = ρ (r 0) j := fun j hj => Eq.trans (by rw [hρ_233, va_up_self, pk_un (by omega)]) (hk j hj)
  refine x_iinc (v := 2) (lv' := [(3, .int 2), (2, .int 2), (1, .int (nI (186 + (52 * s)))), (0, .ref m)]) hE dX12_keep_234 0 rfl (by decide) (by decide) rfl ?_
  refine x_goto (tgt := 206) hE dX12_keep_237 (by decide) ?_
  refine x_iload_n hE dX12_keep_206 rfl 0 rfl ?_
  refine x_iconst (v := 3) hE dX12_keep_207 (by decide) ?_
  refine x_icmp_ge (tgt := 240) hE dX12_keep_208 (by decide) (fun c_208 => absurd c_208 (by decide)) (fun c_208 => ?_)
  refine x_aload_n hE dX12_keep_211 rfl 3 rfl ?_
  refine h_getr hE hM rfl inZX12 0 (by decide) q1394 rfl dX12_keep_212 ?_
  refine x_iload_n hE dX12_keep_215 rfl 2 rfl ?_
  refine x_bipush (v := 26) hE dX12_keep_216 (by decide) ?_
  refine x_iadd hE dX12_keep_218 ?_
  refine x_norm (y := nI ((186 + (52 * s)) + 26)) (nI_add ((186 + (52 * s))) (26)) ?_
  refine x_iconst (v := 3) hE dX12_keep_219 (by decide) ?_
  refine x_iload_n hE dX12_keep_220 rfl 1 rfl ?_
  refine x_imul hE dX12_keep_221 ?_
  refine x_norm (y := 6) (by decide) ?_
  refine x_iadd hE dX12_keep_222 ?_
  refine x_norm (y := nI (((186 + (52 * s)) + 26) + 6)) (nI_add (((186 + (52 * s)) + 26)) (6)) ?_
  refine x_iload_n hE dX12_keep_223 rfl 0 rfl ?_
  refine x_iadd hE dX12_keep_224 ?_
  refine x_norm (y := nI ((((186 + (52 * s)) + 26) + 6) + 2)) (nI_add ((((186 + (52 * s)) + 26) + 6)) (2)) ?_
  refine x_aload_n hE dX12_keep_225 rfl 3 rfl ?_
  refine x_iload_n hE dX12_keep_226 rfl 1 rfl ?_
  refine x_iconst (v := 2) hE dX12_keep_227 (by decide) ?_
  refine x_iload_n hE dX12_keep_228 rfl 0 rfl ?_
  refine x_iadd hE dX12_keep_229 ?_
  refine x_norm (y := 4) (by decide) ?_
  refine c_ip hE (r_V (st := [.int (nI ((((186 + (52 * s)) + 26) + 6) + 2)), .ref (r 0)]) hE (m_get l D cy L σ φ ρ_233 2 4 hm (by omega) (by omega)) q1753 q1755 q70 q124 q1756 hM rfl ⟨by decide, by decide, pn_X12_get⟩ ⟨Nat.le_of_ble_eq_true rfl, Nat.le_of_ble_eq_true rfl⟩ ⟨Nat.le_of_ble_eq_true rfl, Nat.le_of_ble_eq_true rfl⟩ rfl (Nat.le_of_ble_eq_true rfl) dX12_keep_230) (fun r230 h_230 => ?_)
  refine x_widen (k' := 0) (n' := 0) (Nat.le_of_ble_eq_true rfl) (Nat.le_of_ble_eq_true rfl) ?_
  refine h_iastL (iN := ((((186 + (52 * s)) + 26) + 6) + 2)) hE hr0 (nI_clamp (by omega)) (nI_pos (by omega)) (by omega) dX12_keep_233 ?_
  refine x_rho (fun ρ_233 hρ_233 => ?_)
  have hk : ∀ j, j < 186 → ρ_233 (r 0) j = ρ (r 0) j := fun j hj => Eq.trans (by rw [hρ_233, va_up_self, pk_un (by omega)]) (hk j hj)
  refine x_iinc (v := 3) (lv' := [(3, .int 3), (2, .int 2), (1, .int (nI (186 + (52 * s)))), (0, .ref m)]) hE dX12_keep_234 0 rfl (by decide) (by decide) rfl ?_
  refine x_goto (tgt := 206) hE dX12_keep_237 (by decide) ?_
  refine x_iload_n hE dX12_keep_206 rfl 0 rfl ?_
  refine x_iconst (v := 3) hE dX12_keep_207 (by decide) ?_
  refine x_icmp_ge (tgt := 240) hE dX12_keep_208 (by decide) (fun c_208 => ?_) (fun c_208 => absurd (by decide) c_208)
  refine x_iinc (v := 3) (lv' := [(2, .int 3), (3, .int 3), (1, .int (nI (186 + (52 * s)))), (0, .ref m)]) hE dX12_keep_240 1 rfl (by decide) (by decide) rfl ?_
  refine x_goto (tgt := 198) hE dX12_keep_243 (by decide) ?_
  refine x_iload_n hE dX12_keep_198 rfl 0 rfl ?_
  refine x_bipush (v := 8) hE dX12_keep_199 (by decide) ?_
  refine x_icmp_ge (tgt := 246) hE dX12_keep_201 (by decide) (fun c_201 => absurd c_201 (by decide)) (fun c_201 => ?_)
  refine x_iconst (v := 0) hE dX12_keep_204 (by decide) ?_
  refine x_istore_n (lv' := [(3, .int 0), (2, .int 3), (1, .int (nI (186 + (52 * s)))), (0, .ref m)]) hE dX12_keep_205 rfl (by decide) rfl ?_
  refine x_iload_n hE dX12_keep_206 rfl 0 rfl ?_
  refine x_iconst (v := 3) hE dX12_keep_207 (by decide) ?_
  refine x_icmp_ge (tgt := 240) hE dX12_keep_208 (by decide) (fun c_208 => absurd c_208 (by decide)) (fun c_208 => ?_)
  refine x_aload_n hE dX12_keep_211 rfl 3 rfl ?_
  refine h_getr hE hM rfl inZX12 0 (by decide) q1394 rfl dX12_keep_212 ?_
  refine x_iload_n hE dX12_keep_215 rfl 2 rfl ?_
  refine x_bipush (v := 26) hE dX12_keep_216 (by decide) ?_
  refine x_iadd hE dX12_keep_218 ?_
  refine x_norm (y := nI ((186 + (52 * s)) + 26)) (nI_add ((186 + (52 * s))) (26)) ?_
  refine x_iconst (v := 3) hE dX12_keep_219 (by decide) ?_
  refine x_iload_n hE dX12_keep_220 rfl 1 rfl ?_
  refine x_imul hE dX12_keep_221 ?_
  refine x_norm (y := 9) (by decide) ?_
  refine x_iadd hE dX12_keep_222 ?_
  refine x_norm (y := nI (((186 + (52 * s)) + 26) + 9)) (nI_add (((186 + (52 * s)) + 26)) (9)) ?_
  refine x_iload_n hE dX12_keep_223 rfl 0 rfl ?_
  refine x_iadd hE dX12_keep_224 ?_
  refine x_norm (y := nI ((((186 + (52 * s)) + 26) + 9) + 0)) (nI_add ((((186 + (52 * s)) + 26) + 9)) (0)) ?_
  refine x_aload_n hE dX12_keep_225 rfl 3 rfl ?_
  refine x_iload_n hE dX12_keep_226 rfl 1 rfl ?_
  refine x_iconst (v := 2) hE dX12_keep_227 (by decide) ?_
  refine x_iload_n hE dX12_keep_228 rfl 0 rfl ?_
  refine x_iadd hE dX12_keep_229 ?_
  refine x_norm (y := 2) (by decide) ?_
  refine c_ip hE (r_V (st := [.int (nI ((((186 + (52 * s)) + 26) + 9) + 0)), .ref (r 0)]) hE (m_get l D cy L σ φ ρ_233 3 2 hm (by omega) (by omega)) q1753 q1755 q70 q124 q1756 hM rfl ⟨by decide, by decide, pn_X12_get⟩ ⟨Nat.le_of_ble_eq_true rfl, Nat.le_of_ble_eq_true rfl⟩ ⟨Nat.le_of_ble_eq_true rfl, Nat.le_of_ble_eq_true rfl⟩ rfl (Nat.le_of_ble_eq_true rfl) dX12_keep_230) (fun r230 h_230 => ?_)
  refine x_widen (k' := 0) (n' := 0) (Nat.le_of_ble_eq_true rfl) (Nat.le_of_ble_eq_true rfl) ?_
  refine h_iastL (iN := ((((186 + (52 * s)) + 26) + 9) + 0)) hE hr0 (nI_clamp (by omega)) (nI_pos (by omega)) (by omega) dX12_keep_233 ?_
  refine x_rho (fun ρ_233 hρ_233 => ?_)
  have hk : ∀ j, j < 186 → ρ_233 (r 0) j = ρ (r 0) j := fun j hj => Eq.trans (by rw [hρ_233, va_up_self, pk_un (by omega)]) (hk j hj)
  refine x_iinc (v := 1) (lv' := [(3, .int 1), (2, .int 3), (1, .int (nI (186 + (52 * s)))), (0, .ref m)]) hE dX12_keep_234 0 rfl (by decide) (by decide) rfl ?_
  refine x_goto (tgt := 206) hE dX12_keep_237 (by decide) ?_
  refine x_iload_n hE dX12_keep_206 rfl 0 rfl ?_
  refine x_iconst (v := 3) hE dX12_keep_207 (by decide) ?_
  refine x_icmp_ge (tgt := 240) hE dX12_keep_208 (by decide) (fun c_208 => absurd c_208 (by decide)) (fun c_208 => ?_)
  refine x_aload_n hE dX12_keep_211 rfl 3 rfl ?_
  refine h_getr hE hM rfl inZX12 0 (by decide) q1394 rfl dX12_keep_212 ?_
  refine x_iload_n hE dX12_keep_215 rfl 2 rfl ?_
  refine x_bipush (v := 26) hE dX12_keep_216 (by decide) ?_
  refine x_iadd hE dX12_keep_218 ?_
  refine x_norm (y := nI ((186 + (52 * s)) + 26)) (nI_add ((186 + (52 * s))) (26)) ?_
  refine x_iconst (v := 3) hE dX12_keep_219 (by decide) ?_
  refine x_iload_n hE dX12_keep_220 rfl 1 rfl ?_
  refine x_imul hE dX12_keep_221 ?_
  refine x_norm (y := 9) (by decide) ?_
  refine x_iadd hE dX12_keep_222 ?_
  refine x_norm (y := nI (((186 + (52 * s)) + 26) + 9)) (nI_add (((186 + (52 * s)) + 26)) (9)) ?_
  refine x_iload_n hE dX12_keep_223 rfl 0 rfl ?_
  refine x_iadd hE dX12_keep_224 ?_
  refine x_norm (y := nI ((((186 + (52 * s)) + 26) + 9) + 1)) (nI_add ((((186 + (52 * s)) + 26) + 9)) (1)) ?_
  refine x_aload_n hE dX12_keep_225 rfl 3 rfl ?_
  refine x_iload_n hE dX12_keep_226 rfl 1 rfl ?_
  refine x_iconst (v := 2) hE dX12_keep_227 (by decide) ?_
  refine x_iload_n hE dX12_keep_228 rfl 0 rfl ?_
  refine x_iadd hE dX12_keep_229 ?_
  refine x_norm (y := 3) (by decide) ?_
  refine c_ip hE (r_V (st := [.int (nI ((((186 + (52 * s)) + 26) + 9) + 1)), .ref (r 0)]) hE (m_get l D cy L σ φ ρ_233 3 3 hm (by omega) (by omega)) q1753 q1755 q70 q124 q1756 hM rfl ⟨by decide, by decide, pn_X12_get⟩ ⟨Nat.le_of_ble_eq_true rfl, Nat.le_of_ble_eq_true rfl⟩ ⟨Nat.le_of_ble_eq_true rfl, Nat.le_of_ble_eq_true rfl⟩ rfl (Nat.le_of_ble_eq_true rfl) dX12_keep_230) (fun r230 h_230 => ?_)
  refine x_widen (k' := 0) (n' := 0) (Nat.le_of_ble_eq_true rfl) (Nat.le_of_ble_eq_true rfl) ?_
  refine h_iastL (iN := ((((186 + (52 * s)) + 26) + 9) + 1)) hE hr0 (nI_clamp (by omega)) (nI_pos (by omega)) (by omega) dX12_keep_233 ?_
  refine x_rho (fun ρ_233 hρ_233 => ?_)
  have hk : ∀ j, j < 186 → ρ_233 (r 0) j = ρ (r 0) j := fun j hj => Eq.trans (by rw [hρ_233, va_up_self, pk_un (by omega)]) (hk j hj)
  refine x_iinc (v := 2) (lv' := [(3, .int 2), (2, .int 3), (1, .int (nI (186 + (52 * s)))), (0, .ref m)]) hE dX12_keep_234 0 rfl (by decide) (by decide) rfl ?_
  refine x_goto (tgt := 206) hE dX12_keep_237 (by decide) ?_
  refine x_iload_n hE dX12_keep_206 rfl 0 rfl ?_
  refine x_iconst (v := 3) hE dX12_keep_207 (by decide) ?_
  refine x_icmp_ge (tgt := 240) hE dX12_keep_208 (by decide) (fun c_208 => absurd c_208 (by decide)) (fun c_208 => ?_)
  refine x_aload_n hE dX12_keep_211 rfl 3 rfl ?_
  refine h_getr hE hM rfl inZX12 0 (by decide) q1394 rfl dX12_keep_212 ?_
  refine x_iload_n hE dX12_keep_215 rfl 2 rfl ?_
  refine x_bipush (v := 26) hE dX12_keep_216 (by decide) ?_
  refine x_iadd hE dX12_keep_218 ?_
  refine x_norm (y := nI ((186 + (52 * s)) + 26)) (nI_add ((186 + (52 * s))) (26)) ?_
  refine x_iconst (v := 3) hE dX12_keep_219 (by decide) ?_
  refine x_iload_n hE dX12_keep_220 rfl 1 rfl ?_
  refine x_imul hE dX12_keep_221 ?_
  refine x_norm (y := 9) (by decide) ?_
  refine x_iadd hE dX12_keep_222 ?_
  refine x_norm (y := nI (((186 + (52 * s)) + 26) + 9)) (nI_add (((186 + (52 * s)) + 26)) (9)) ?_
  refine x_iload_n hE dX12_keep_223 rfl 0 rfl ?_
  refine x_iadd hE dX12_keep_224 ?_
  refine x_norm (y := nI ((((186 + (52 * s)) + 26) + 9) + 2)) (nI_add ((((186 + (52 * s)) + 26) + 9)) (2)) ?_
  refine x_aload_n hE dX12_keep_225 rfl 3 rfl ?_
  refine x_iload_n hE dX12_keep_226 rfl 1 rfl ?_
  refine x_iconst (v := 2) hE dX12_keep_227 (by decide) ?_
  refine x_iload_n hE dX12_keep_228 rfl 0 rfl ?_
  refine x_iadd hE dX12_keep_229 ?_
  refine x_norm (y := 4) (by decide) ?_
  refine c_ip hE (r_V (st := [.int (nI ((((186 + (52 * s)) + 26) + 9) + 2)), .ref (r 0)]) hE (m_get l D cy L σ φ ρ_233 3 4 hm (by omega) (by omega)) q1753 q1755 q70 q124 q1756 hM rfl ⟨by decide, by decide, pn_X12_get⟩ ⟨Nat.le_of_ble_eq_true rfl, Nat.le_of_ble_eq_true rfl⟩ ⟨Nat.le_of_ble_eq_true rfl, Nat.le_of_ble_eq_true rfl⟩ rfl (Nat.le_of_ble_eq_true rfl) dX12_keep_230) (fun r230 h_230 => ?_)
  refine x_widen (k' := 0) (n' := 0) (Nat.le_of_ble_eq_true rfl) (Nat.le_of_ble_eq_true rfl) ?_
  refine h_iastL (iN := ((((186 + (52 * s)) + 26) + 9) + 2)) hE hr0 (nI_clamp (by omega)) (nI_pos (by omega)) (by omega) dX12_keep_233 ?_
  refine x_rho (fun ρ_233 hρ_233 => ?_)
  have hk : ∀ j, j < 186 → ρ_233 (r 0) j = ρ (r 0) j := fun j hj => Eq.trans (by rw [hρ_233, va_up_self, pk_un (by omega)]) (hk j hj)
  refine x_iinc (v := 3) (lv' := [(3, .int 3), (2, .int 3), (1, .int (nI (186 + (52 * s)))), (0, .ref m)]) hE dX12_keep_234 0 rfl (by decide) (by decide) rfl ?_
  refine x_goto (tgt := 206) hE dX12_keep_237 (by decide) ?_
  refine x_iload_n hE dX12_keep_206 rfl 0 rfl ?_
  refine x_iconst (v := 3) hE dX12_keep_207 (by decide) ?_
  refine x_icmp_ge (tgt := 240) hE dX12_keep_208 (by decide) (fun c_208 => ?_) (fun c_208 => absurd (by decide) c_208)
  refine x_iinc (v := 4) (lv' := [(2, .int 4), (3, .int 3), (1, .int (nI (186 + (52 * s)))), (0, .ref m)]) hE dX12_keep_240 1 rfl (by decide) (by decide) rfl ?_
  refine x_goto (tgt := 198) hE dX12_keep_243 (by decide) ?_
  refine x_iload_n hE dX12_keep_198 rfl 0 rfl ?_
  refine x_bipush (v := 8) hE dX12_keep_199 (by decide) ?_
  refine x_icmp_ge (tgt := 246) hE dX12_keep_201 (by decide) (fun c_201 => absurd c_201 (by decide)) (fun c_201 => ?_)
  refine x_iconst (v := 0) hE dX12_keep_204 (by decide) ?_
  refine x_istore_n (lv' := [(3, .int 0), (2, .int 4), (1, .int (nI (186 + (52 * s)))), (0, .ref m)]) hE dX12_keep_205 rfl (by decide) rfl ?_
  refine x_iload_n hE dX12_keep_206 rfl 0 rfl ?_
  refine x_iconst (v := 3) hE dX12_keep_207 (by decide) ?_
  refine x_icmp_ge (tgt := 240) hE dX12_keep_208 (by decide) (fun c_208 => absurd c_208 (by decide)) (fun c_208 => ?_)
  refine x_aload_n hE dX12_keep_211 rfl 3 rfl ?_
  refine h_getr hE hM rfl inZX12 0 (by decide) q1394 rfl dX12_keep_212 ?_
  refine x_iload_n hE dX12_keep_215 rfl 2 rfl ?_
  refine x_bipush (v := 26) hE dX12_keep_216 (by decide) ?_
  refine x_iadd hE dX12_keep_218 ?_
  refine x_norm (y := nI ((186 + (52 * s)) + 26)) (nI_add ((186 + (52 * s))) (26)) ?_
  refine x_iconst (v := 3) hE dX12_keep_219 (by decide) ?_
  refine x_iload_n hE dX12_keep_220 rfl 1 rfl ?_
  refine x_imul hE dX12_keep_221 ?_
  refine x_norm (y := 12) (by decide) ?_
  refine x_iadd hE dX12_keep_222 ?_
  refine x_norm (y := nI (((186 + (52 * s)) + 26) + 12)) (nI_add (((186 + (52 * s)) + 26)) (12)) ?_
  refine x_iload_n hE dX12_keep_223 rfl 0 rfl ?_
  refine x_iadd hE dX12_keep_224 ?_
  refine x_norm (y := nI ((((186 + (52 * s)) + 26) + 12) + 0)) (nI_add ((((186 + (52 * s)) + 26) + 12)) (0)) ?_
  refine x_aload_n hE dX12_keep_225 rfl 3 rfl ?_
  refine x_iload_n hE dX12_keep_226 rfl 1 rfl ?_
  refine x_iconst (v := 2) hE dX12_keep_227 (by decide) ?_
  refine x_iload_n hE dX12_keep_228 rfl 0 rfl ?_
  refine x_iadd hE dX12_keep_229 ?_
  refine x_norm (y := 2) (by decide) ?_
  refine c_ip hE (r_V (st := [.int (nI ((((186 + (52 * s)) + 26) + 12) + 0)), .ref (r 0)]) hE (m_get l D cy L σ φ ρ_233 4 2 hm (by omega) (by omega)) q1753 q1755 q70 q124 q1756 hM rfl ⟨by decide, by decide, pn_X12_get⟩ ⟨Nat.le_of_ble_eq_true rfl, Nat.le_of_ble_eq_true rfl⟩ ⟨Nat.le_of_ble_eq_true rfl, Nat.le_of_ble_eq_true rfl⟩ rfl (Nat.le_of_ble_eq_true rfl) dX12_keep_230) (fun r230 h_230 => ?_)
  refine x_widen (k' := 0) (n' := 0) (Nat.le_of_ble_eq_true rfl) (Nat.le_of_ble_eq_true rfl) ?_
  refine h_iastL (iN := ((((186 + (52 * s)) + 26) + 12) + 0)) hE hr0 (nI_clamp (by omega)) (nI_pos (by omega)) (by omega) dX12_keep_233 ?_
  refine x_rho (fun ρ_233 hρ_233 => ?_)
  have hk : ∀ j, j < 186 → ρ_233 (r 0) j = ρ (r 0) j := fun j hj => Eq.trans (by rw [hρ_233, va_up_self, pk_un (by omega)]) (hk j hj)
  refine x_iinc (v := 1) (lv' := [(3, .int 1), (2, .int 4), (1, .int (nI (186 + (52 * s)))), (0, .ref m)]) hE dX12_keep_234 0 rfl (by decide) (by decide) rfl ?_
  refine x_goto (tgt := 206) hE dX12_keep_237 (by decide) ?_
  refine x_iload_n hE dX12_keep_206 rfl 0 rfl ?_
  refine x_iconst (v := 3) hE dX12_keep_207 (by decide) ?_
  refine x_icmp_ge (tgt := 240) hE dX12_keep_208 (by decide) (fun c_208 => absurd c_208 (by decide)) (fun c_208 => ?_)
  refine x_aload_n hE dX12_keep_211 rfl 3 rfl ?_
  refine h_getr hE hM rfl inZX12 0 (by decide) q1394 rfl dX12_keep_212 ?_
  refine x_iload_n hE dX12_keep_215 rfl 2 rfl ?_
  refine x_bipush (v := 26) hE dX12_keep_216 (by decide) ?_
  refine x_iadd hE dX12_keep_218 ?_
  refine x_norm (y := nI ((186 + (52 * s)) + 26)) (nI_add ((186 + (52 * s))) (26)) ?_
  refine x_iconst (v := 3) hE dX12_keep_219 (by decide) ?_
  refine x_iload_n hE dX12_keep_220 rfl 1 rfl ?_
  refine x_imul hE dX12_keep_221 ?_
  refine x_norm (y := 12) (by decide) ?_
  refine x_iadd hE dX12_keep_222 ?_
  refine x_norm (y := nI (((186 + (52 * s)) + 26) + 12)) (nI_add (((186 + (52 * s)) + 26)) (12)) ?_
  refine x_iload_n hE dX12_keep_223 rfl 0 rfl ?_
  refine x_iadd hE dX12_keep_224 ?_
  refine x_norm (y := nI ((((186 + (52 * s)) + 26) + 12) + 1)) (nI_add ((((186 + (52 * s)) + 26) + 12)) (1)) ?_
  refine x_aload_n hE dX12_keep_225 rfl 3 rfl ?_
  refine x_iload_n hE dX12_keep_226 rfl 1 rfl ?_
  refine x_iconst (v := 2) hE dX12_keep_227 (by decide) ?_
  refine x_iload_n hE dX12_keep_228 rfl 0 rfl ?_
  refine x_iadd hE dX12_keep_229 ?_
  refine x_norm (y := 3) (by decide) ?_
  refine c_ip hE (r_V (st := [.int (nI ((((186 + (52 * s)) + 26) + 12) + 1)), .ref (r 0)]) hE (m_get l D cy L σ φ ρ_233 4 3 hm (by omega) (by omega)) q1753 q1755 q70 q124 q1756 hM rfl ⟨by decide, by decide, pn_X12_get⟩ ⟨Nat.le_of_ble_eq_true rfl, Nat.le_of_ble_eq_true rfl⟩ ⟨Nat.le_of_ble_eq_true rfl, Nat.le_of_ble_eq_true rfl⟩ rfl (Nat.le_of_ble_eq_true rfl) dX12_keep_230) (fun r230 h_230 => ?_)
  refine x_widen (k' := 0) (n' := 0) (Nat.le_of_ble_eq_true rfl) (Nat.le_of_ble_eq_true rfl) ?_
  refine h_iastL (iN := ((((186 + (52 * s)) + 26) + 12) + 1)) hE hr0 (nI_clamp (by omega)) (nI_pos (by omega)) (by omega) dX12_keep_233 ?_
  refine x_rho (fun ρ_233 hρ_233 => ?_)
  have hk : ∀ j, j < 186 → ρ_233 (r 0) j = ρ (r 0) j := fun j hj => Eq.trans (by rw [hρ_233, va_up_self, pk_un (by omega)]) (hk j hj)
  refine x_iinc (v := 2) (lv' := [(3, .int 2), (2, .int 4), (1, .int (nI (186 + (52 * s)))), (0, .ref m)]) hE dX12_keep_234 0 rfl (by decide) (by decide) rfl ?_
  refine x_goto (tgt := 206) hE dX12_keep_237 (by decide) ?_
  refine x_iload_n hE dX12_keep_206 rfl 0 rfl ?_
  refine x_iconst (v := 3) hE dX12_keep_207 (by decide) ?_
  refine x_icmp_ge (tgt := 240) hE dX12_keep_208 (by decide) (fun c_208 => absurd c_208 (by decide)) (fun c_208 => ?_)
  refine x_aload_n hE dX12_keep_211 rfl 3 rfl ?_
  refine h_getr hE hM rfl inZX12 0 (by decide) q1394 rfl dX12_keep_212 ?_
  refine x_iload_n hE dX12_keep_215 rfl 2 rfl ?_
  refine x_bipush (v := 26) hE dX12_keep_216 (by decide) ?_
  refine x_iadd hE dX12_keep_218 ?_
  refine x_norm (y := nI ((186 + (52 * s)) + 26)) (nI_add ((186 + (52 * s))) (26)) ?_
  refine x_iconst (v := 3) hE dX12_keep_219 (by decide) ?_
  refine x_iload_n hE dX12_keep_220 rfl 1 rfl ?_
  refine x_imul hE dX12_keep_221 ?_
  refine x_norm (y := 12) (by decide) ?_
  refine x_iadd hE dX12_keep_222 ?_
  refine x_norm (y := nI (((186 + (52 * s)) + 26) + 12)) (nI_add (((186 + (52 * s)) + 26)) (12)) ?_
  refine x_iload_n hE dX12_keep_223 rfl 0 rfl ?_
  refine x_iadd hE dX12_keep_224 ?_
  refine x_norm (y := nI ((((186 + (52 * s)) + 26) + 12) + 2)) (nI_add ((((186 + (52 * s)) + 26) + 12)) (2)) ?_
  refine x_aload_n hE dX12_keep_225 rfl 3 rfl ?_
  refine x_iload_n hE dX12_keep_226 rfl 1 rfl ?_
  refine x_iconst (v := 2) hE dX12_keep_227 (by decide) ?_
  refine x_iload_n hE dX12_keep_228 rfl 0 rfl ?_
  refine x_iadd hE dX12_keep_229 ?_
  refine x_norm (y := 4) (by decide) ?_
  refine c_ip hE (r_V (st := [.int (nI ((((186 + (52 * s)) + 26) + 12) + 2)), .ref (r 0)]) hE (m_get l D cy L σ φ ρ_233 4 4 hm (by omega) (by omega)) q1753 q1755 q70 q124 q1756 hM rfl ⟨by decide, by decide, pn_X12_get⟩ ⟨Nat.le_of_ble_eq_true rfl, Nat.le_of_ble_eq_true rfl⟩ ⟨Nat.le_of_ble_eq_true rfl, Nat.le_of_ble_eq_true rfl⟩ rfl (Nat.le_of_ble_eq_true rfl) dX12_keep_230) (fun r230 h_230 => ?_)
  refine x_widen (k' := 0) (n' := 0) (Nat.le_of_ble_eq_true rfl) (Nat.le_of_ble_eq_true rfl) ?_
  refine h_iastL (iN := ((((186 + (52 * s)) + 26) + 12) + 2)) hE hr0 (nI_clamp (by omega)) (nI_pos (by omega)) (by omega) dX12_keep_233 ?_
  refine x_rho (fun ρ_233 hρ_233 => ?_)
  have hk : ∀ j, j < 186 → ρ_233 (r 0) j = ρ (r 0) j := fun j hj => Eq.trans (by rw [hρ_233, va_up_self, pk_un (by omega)]) (hk j hj)
  refine x_iinc (v := 3) (lv' := [(3, .int 3), (2, .int 4), (1, .int (nI (186 + (52 * s)))), (0, .ref m)]) hE dX12_keep_234 0 rfl (by decide) (by decide) rfl ?_
  refine x_goto (tgt := 206) hE dX12_keep_237 (by decide) ?_
  refine x_iload_n hE dX12_keep_206 rfl 0 rfl ?_
  refine x_iconst (v := 3) hE dX12_keep_207 (by decide) ?_
  refine x_icmp_ge (tgt := 240) hE dX12_keep_208 (by decide) (fun c_208 => ?_) (fun c_208 => absurd (by decide) c_208)
  refine x_iinc (v := 5) (lv' := [(2, .int 5), (3, .int 3), (1, .int (nI (186 + (52 * s)))), (0, .ref m)]) hE dX12_keep_240 1 rfl (by decide) (by decide) rfl ?_
  refine x_goto (tgt := 198) hE dX12_keep_243 (by decide) ?_
  refine x_iload_n hE dX12_keep_198 rfl 0 rfl ?_
  refine x_bipush (v := 8) hE dX12_keep_199 (by decide) ?_
  refine x_icmp_ge (tgt := 246) hE dX12_keep_201 (by decide) (fun c_201 => absurd c_201 (by decide)) (fun c_201 => ?_)
  refine x_iconst (v := 0) hE dX12_keep_204 (by decide) ?_
  refine x_istore_n (lv' := [(3, .int 0), (2, .int 5), (1, .int (nI (186 + (52 * s)))), (0, .ref m)]) hE dX12_keep_205 rfl (by decide) rfl ?_
  refine x_iload_n hE dX12_keep_206 rfl 0 rfl ?_
  refine x_iconst (v := 3) hE dX12_keep_207 (by decide) ?_
  refine x_icmp_ge (tgt := 240) hE dX12_keep_208 (by decide) (fun c_208 => absurd c_208 (by decide)) (fun c_208 => ?_)
  refine x_aload_n hE dX12_keep_211 rfl 3 rfl ?_
  refine h_getr hE hM rfl inZX12 0 (by decide) q1394 rfl dX12_keep_212 ?_
  refine x_iload_n hE dX12_keep_215 rfl 2 rfl ?_
  refine x_bipush (v := 26) hE dX12_keep_216 (by decide) ?_
  refine x_iadd hE dX12_keep_218 ?_
  refine x_norm (y := nI ((186 + (52 * s)) + 26)) (nI_add ((186 + (52 * s))) (26)) ?_
  refine x_iconst (v := 3) hE dX12_keep_219 (by decide) ?_
  refine x_iload_n hE dX12_keep_220 rfl 1 rfl ?_
  refine x_imul hE dX12_keep_221 ?_
  refine x_norm (y := 15) (by decide) ?_
  refine x_iadd hE dX12_keep_222 ?_
  refine x_norm (y := nI (((186 + (52 * s)) + 26) + 15)) (nI_add (((186 + (52 * s)) + 26)) (15)) ?_
  refine x_iload_n hE dX12_keep_223 rfl 0 rfl ?_
  refine x_iadd hE dX12_keep_224 ?_
  refine x_norm (y := nI ((((186 + (52 * s)) + 26) + 15) + 0)) (nI_add ((((186 + (52 * s)) + 26) + 15)) (0)) ?_
  refine x_aload_n hE dX12_keep_225 rfl 3 rfl ?_
  refine x_iload_n hE dX12_keep_226 rfl 1 rfl ?_
  refine x_iconst (v := 2) hE dX12_keep_227 (by decide) ?_
  refine x_iload_n hE dX12_keep_228 rfl 0 rfl ?_
  refine x_iadd hE dX12_keep_229 ?_
  refine x_norm (y := 2) (by decide) ?_
  refine c_ip hE (r_V (st := [.int (nI ((((186 + (52 * s)) + 26) + 15) + 0)), .ref (r 0)]) hE (m_get l D cy L σ φ ρ_233 5 2 hm (by omega) (by omega)) q1753 q1755 q70 q124 q1756 hM rfl ⟨by decide, by decide, pn_X12_get⟩ ⟨Nat.le_of_ble_eq_true rfl, Nat.le_of_ble_eq_true rfl⟩ ⟨Nat.le_of_ble_eq_true rfl, Nat.le_of_ble_eq_true rfl⟩ rfl (Nat.le_of_ble_eq_true rfl) dX12_keep_230) (fun r230 h_230 => ?_)
  refine x_widen (k' := 0) (n' := 0) (Nat.le_of_ble_eq_true rfl) (Nat.le_of_ble_eq_true rfl) ?_
  refine h_iastL (iN := ((((186 + (52 * s)) + 26) + 15) + 0)) hE hr0 (nI_clamp (by omega)) (nI_pos (by omega)) (by omega) dX12_keep_233 ?_
  refine x_rho (fun ρ_233 hρ_233 => ?_)
  have hk : ∀ j, j < 186 → ρ_233 (r 0) j = ρ (r 0) j := fun j hj => Eq.trans (by rw [hρ_233, va_up_self, pk_un (by omega)]) (hk j hj)
  refine x_iinc (v := 1) (lv' := [(3, .int 1), (2, .int 5), (1, .int (nI (186 + (52 * s)))), (0, .ref m)]) hE dX12_keep_234 0 rfl (by decide) (by decide) rfl ?_
  refine x_goto (tgt := 206) hE dX12_keep_237 (by decide) ?_
  refine x_iload_n hE dX12_keep_206 rfl 0 rfl ?_
  refine x_iconst (v := 3) hE dX12_keep_207 (by decide) ?_
  refine x_icmp_ge (tgt := 240) hE dX12_keep_208 (by decide) (fun c_208 => absurd c_208 (by decide)) (fun c_208 => ?_)
  refine x_aload_n hE dX12_keep_211 rfl 3 rfl ?_
  refine h_getr hE hM rfl inZX12 0 (by decide) q1394 rfl dX12_keep_212 ?_
  refine x_iload_n hE dX12_keep_215 rfl 2 rfl ?_
  refine x_bipush (v := 26) hE dX12_keep_216 (by decide) ?_
  refine x_iadd hE dX12_keep_218 ?_
  refine x_norm (y := nI ((186 + (52 * s)) + 26)) (nI_add ((186 + (52 * s))) (26)) ?_
  refine x_iconst (v := 3) hE dX12_keep_219 (by decide) ?_
  refine x_iload_n hE dX12_keep_220 rfl 1 rfl ?_
  refine x_imul hE dX12_keep_221 ?_
  refine x_norm (y := 15) (by decide) ?_
  refine x_iadd hE dX12_keep_222 ?_
  refine x_norm (y := nI (((186 + (52 * s)) + 26) + 15)) (nI_add (((186 + (52 * s)) + 26)) (15)) ?_
  refine x_iload_n hE dX12_keep_223 rfl 0 rfl ?_
  refine x_iadd hE dX12_keep_224 ?_
  refine x_norm (y := nI ((((186 + (52 * s)) + 26) + 15) + 1)) (nI_add ((((186 + (52 * s)) + 26) + 15)) (1)) ?_
  refine x_aload_n hE dX12_keep_225 rfl 3 rfl ?_
  refine x_iload_n hE dX12_keep_226 rfl 1 rfl ?_
  refine x_iconst (v := 2) hE dX12_keep_227 (by decide) ?_
  refine x_iload_n hE dX12_keep_228 rfl 0 rfl ?_
  refine x_iadd hE dX12_keep_229 ?_
  refine x_norm (y := 3) (by decide) ?_
  refine c_ip hE (r_V (st := [.int (nI ((((186 + (52 * s)) + 26) + 15) + 1)), .ref (r 0)]) hE (m_get l D cy L σ φ ρ_233 5 3 hm (by omega) (by omega)) q1753 q1755 q70 q124 q1756 hM rfl ⟨by decide, by decide, pn_X12_get⟩ ⟨Nat.le_of_ble_eq_true rfl, Nat.le_of_ble_eq_true rfl⟩ ⟨Nat.le_of_ble_eq_true rfl, Nat.le_of_ble_eq_true rfl⟩ rfl (Nat.le_of_ble_eq_true rfl) dX12_keep_230) (fun r230 h_230 => ?_)
  refine x_widen (k' := 0) (n' := 0) (Nat.le_of_ble_eq_true rfl) (Nat.le_of_ble_eq_true rfl) ?_
  refine h_iastL (iN := ((((186 + (52 * s)) + 26) + 15) + 1)) hE hr0 (nI_clamp (by omega)) (nI_pos (by omega)) (by omega) dX12_keep_233 ?_
  refine x_rho (fun ρ_233 hρ_233 => ?_)
  have hk : ∀ j, j < 186 → ρ_233 (r 0) j = ρ (r 0) j := fun j hj => Eq.trans (by rw [hρ_233, va_up_self, pk_un (by omega)]) (hk j hj)
  refine x_iinc (v := 2) (lv' := [(3, .int 2), (2, .int 5), (1, .int (nI (186 + (52 * s)))), (0, .ref m)]) hE dX12_keep_234 0 rfl (by decide) (by decide) rfl ?_
  refine x_goto (tgt := 206) hE dX12_keep_237 (by decide) ?_
  refine x_iload_n hE dX12_keep_206 rfl 0 rfl ?_
  refine x_iconst (v := 3) hE dX12_keep_207 (by decide) ?_
  refine x_icmp_ge (tgt := 240) hE dX12_keep_208 (by decide) (fun c_208 => absurd c_208 (by decide)) (fun c_208 => ?_)
  refine x_aload_n hE dX12_keep_211 rfl 3 rfl ?_
  refine h_getr hE hM rfl inZX12 0 (by decide) q1394 rfl dX12_keep_212 ?_
  refine x_iload_n hE dX12_keep_215 rfl 2 rfl ?_
  refine x_bipush (v := 26) hE dX12_keep_216 (by decide) ?_
  refine x_iadd hE dX12_keep_218 ?_
  refine x_norm (y := nI ((186 + (52 * s)) + 26)) (nI_add ((186 + (52 * s))) (26)) ?_
  refine x_iconst (v := 3) hE dX12_keep_219 (by decide) ?_
  refine x_iload_n hE dX12_keep_220 rfl 1 rfl ?_
  refine x_imul hE dX12_keep_221 ?_
  refine x_norm (y := 15) (by decide) ?_
  refine x_iadd hE dX12_keep_222 ?_
  refine x_norm (y := nI (((186 + (52 * s)) + 26) + 15)) (nI_add (((186 + (52 * s)) + 26)) (15)) ?_
  refine x_iload_n hE dX12_keep_223 rfl 0 rfl ?_
  refine x_iadd hE dX12_keep_224 ?_
  refine x_norm (y := nI ((((186 + (52 * s)) + 26) + 15) + 2)) (nI_add ((((186 + (52 * s)) + 26) + 15)) (2)) ?_
  refine x_aload_n hE dX12_keep_225 rfl 3 rfl ?_
  refine x_iload_n hE dX12_keep_226 rfl 1 rfl ?_
  refine x_iconst (v := 2) hE dX12_keep_227 (by decide) ?_
  refine x_iload_n hE dX12_keep_228 rfl 0 rfl ?_
  refine x_iadd hE dX12_keep_229 ?_
  refine x_norm (y := 4) (by decide) ?_
  refine c_ip hE (r_V (st := [.int (nI ((((186 + (52 * s)) + 26) + 15) + 2)), .ref (r 0)]) hE (m_get l D cy L σ φ ρ_233 5 4 hm (by omega) (by omega)) q1753 q1755 q70 q124 q1756 hM rfl ⟨by decide, by decide, pn_X12_get⟩ ⟨Nat.le_of_ble_eq_true rfl, Nat.le_of_ble_eq_true rfl⟩ ⟨Nat.le_of_ble_eq_true rfl, Nat.le_of_ble_eq_true rfl⟩ rfl (Nat.le_of_ble_eq_true rfl) dX12_keep_230) (fun r230 h_230 => ?_)
  refine x_widen (k' := 0) (n' := 0) (Nat.le_of_ble_eq_true rfl) (Nat.le_of_ble_eq_true rfl) ?_
  refine h_iastL (iN := ((((186 + (52 * s)) + 26) + 15) + 2)) hE hr0 (nI_clamp (by omega)) (nI_pos (by omega)) (by omega) dX12_keep_233 ?_
  refine x_rho (fun ρ_233 hρ_233 => ?_)
  have hk : ∀ j, j < 186 → ρ_233 (r 0) j = ρ (r 0) j := fun j hj => Eq.trans (by rw [hρ_233, va_up_self, pk_un (by omega)]) (hk j hj)
  refine x_iinc (v := 3) (lv' := [(3, .int 3), (2, .int 5), (1, .int (nI (186 + (52 * s)))), (0, .ref m)]) hE dX12_keep_234 0 rfl (by decide) (by decide) rfl ?_
  refine x_goto (tgt := 206) hE dX12_keep_237 (by decide) ?_
  refine x_iload_n hE dX12_keep_206 rfl 0 rfl ?_
  refine x_iconst (v := 3) hE dX12_keep_207 (by decide) ?_
  refine x_icmp_ge (tgt := 240) hE dX12_keep_208 (by decide) (fun c_208 => ?_) (fun c_208 => absurd (by decide) c_208)
  refine x_iinc (v := 6) (lv' := [(2, .int 6), (3, .int 3), (1, .int (nI (186 + (52 * s)))), (0, .ref m)]) hE dX12_keep_240 1 rfl (by decide) (by decide) rfl ?_
  refine x_goto (tgt := 198) hE dX12_keep_243 (by decide) ?_
  refine x_iload_n hE dX12_keep_198 rfl 0 rfl ?_
  refine x_bipush (v := 8) hE dX12_keep_199 (by decide) ?_
  refine x_icmp_ge (tgt := 246) hE dX12_keep_201 (by decide) (fun c_201 => absurd c_201 (by decide)) (fun c_201 => ?_)
  refine x_iconst (v := 0) hE dX12_keep_204 (by decide) ?_
  refine x_istore_n (lv' := [(3, .int 0), (2, .int 6), (1, .int (nI (186 + (52 * s)))), (0, .ref m)]) hE dX12_keep_205 rfl (by decide) rfl ?_
  refine x_iload_n hE dX12_keep_206 rfl 0 rfl ?_
  refine x_iconst (v := 3) hE dX12_keep_207 (by decide) ?_
  refine x_icmp_ge (tgt := 240) hE dX12_keep_208 (by decide) (fun c_208 => absurd c_208 (by decide)) (fun c_208 => ?_)
  refine x_aload_n hE dX12_keep_211 rfl 3 rfl ?_
  refine h_getr hE hM rfl inZX12 0 (by decide) q1394 rfl dX12_keep_212 ?_
  refine x_iload_n hE dX12_keep_215 rfl 2 rfl ?_
  refine x_bipush (v := 26) hE dX12_keep_216 (by decide) ?_
  refine x_iadd hE dX12_keep_218 ?_
  refine x_norm (y := nI ((186 + (52 * s)) + 26)) (nI_add ((186 + (52 * s))) (26)) ?_
  refine x_iconst (v := 3) hE dX12_keep_219 (by decide) ?_
  refine x_iload_n hE dX12_keep_220 rfl 1 rfl ?_
  refine x_imul hE dX12_keep_221 ?_
  refine x_norm (y := 18) (by decide) ?_
  refine x_iadd hE dX12_keep_222 ?_
  refine x_norm (y := nI (((186 + (52 * s)) + 26) + 18)) (nI_add (((186 + (52 * s)) + 26)) (18)) ?_
  refine x_iload_n hE dX12_keep_223 rfl 0 rfl ?_
  refine x_iadd hE dX12_keep_224 ?_
  refine x_norm (y := nI ((((186 + (52 * s)) + 26) + 18) + 0)) (nI_add ((((186 + (52 * s)) + 26) + 18)) (0)) ?_
  refine x_aload_n hE dX12_keep_225 rfl 3 rfl ?_
  refine x_iload_n hE dX12_keep_226 rfl 1 rfl ?_
  refine x_iconst (v := 2) hE dX12_keep_227 (by decide) ?_
  refine x_iload_n hE dX12_keep_228 rfl 0 rfl ?_
  refine x_iadd hE dX12_keep_229 ?_
  refine x_norm (y := 2) (by decide) ?_
  refine c_ip hE (r_V (st := [.int (nI ((((186 + (52 * s)) + 26) + 18) + 0)), .ref (r 0)]) hE (m_get l D cy L σ φ ρ_233 6 2 hm (by omega) (by omega)) q1753 q1755 q70 q124 q1756 hM rfl ⟨by decide, by decide, pn_X12_get⟩ ⟨Nat.le_of_ble_eq_true rfl, Nat.le_of_ble_eq_true rfl⟩ ⟨Nat.le_of_ble_eq_true rfl, Nat.le_of_ble_eq_true rfl⟩ rfl (Nat.le_of_ble_eq_true rfl) dX12_keep_230) (fun r230 h_230 => ?_)
  refine x_widen (k' := 0) (n' := 0) (Nat.le_of_ble_eq_true rfl) (Nat.le_of_ble_eq_true rfl) ?_
  refine h_iastL (iN := ((((186 + (52 * s)) + 26) + 18) + 0)) hE hr0 (nI_clamp (by omega)) (nI_pos (by omega)) (by omega) dX12_keep_233 ?_
  refine x_rho (fun ρ_233 hρ_233 => ?_)
  have hk : ∀ j, j < 186 → ρ_233 (r 0) j = ρ (r 0) j := fun j hj => Eq.trans (by rw [hρ_233, va_up_self, pk_un (by omega)]) (hk j hj)
  refine x_iinc (v := 1) (lv' := [(3, .int 1), (2, .int 6), (1, .int (nI (186 + (52 * s)))), (0, .ref m)]) hE dX12_keep_234 0 rfl (by decide) (by decide) rfl ?_
  refine x_goto (tgt := 206) hE dX12_keep_237 (by decide) ?_
  refine x_iload_n hE dX12_keep_206 rfl 0 rfl ?_
  refine x_iconst (v := 3) hE dX12_keep_207 (by decide) ?_
  refine x_icmp_ge (tgt := 240) hE dX12_keep_208 (by decide) (fun c_208 => absurd c_208 (by decide)) (fun c_208 => ?_)
  refine x_aload_n hE dX12_keep_211 rfl 3 rfl ?_
  refine h_getr hE hM rfl inZX12 0 (by decide) q1394 rfl dX12_keep_212 ?_
  refine x_iload_n hE dX12_keep_215 rfl 2 rfl ?_
  refine x_bipush (v := 26) hE dX12_keep_216 (by decide) ?_
  refine x_iadd hE dX12_keep_218 ?_
  refine x_norm (y := nI ((186 + (52 * s)) + 26)) (nI_add ((186 + (52 * s))) (26)) ?_
  refine x_iconst (v := 3) hE dX12_keep_219 (by decide) ?_
  refine x_iload_n hE dX12_keep_220 rfl 1 rfl ?_
  refine x_imul hE dX12_keep_221 ?_
  refine x_norm (y := 18) (by decide) ?_
  refine x_iadd hE dX12_keep_222 ?_
  refine x_norm (y := nI (((186 + (52 * s)) + 26) + 18)) (nI_add (((186 + (52 * s)) + 26)) (18)) ?_
  refine x_iload_n hE dX12_keep_223 rfl 0 rfl ?_
  refine x_iadd hE dX12_keep_224 ?_
  refine x_norm (y := nI ((((186 + (52 * s)) + 26) + 18) + 1)) (nI_add ((((186 + (52 * s)) + 26) + 18)) (1)) ?_
  refine x_aload_n hE dX12_keep_225 rfl 3 rfl ?_
  refine x_iload_n hE dX12_keep_226 rfl 1 rfl ?_
  refine x_iconst (v := 2) hE dX12_keep_227 (by decide) ?_
  refine x_iload_n hE dX12_keep_228 rfl 0 rfl ?_
  refine x_iadd hE dX12_keep_229 ?_
  refine x_norm (y := 3) (by decide) ?_
  refine c_ip hE (r_V (st := [.int (nI ((((186 + (52 * s)) + 26) + 18) + 1)), .ref (r 0)]) hE (m_get l D cy L σ φ ρ_233 6 3 hm (by omega) (by omega)) q1753 q1755 q70 q124 q1756 hM rfl ⟨by decide, by decide, pn_X12_get⟩ ⟨Nat.le_of_ble_eq_true rfl, Nat.le_of_ble_eq_true rfl⟩ ⟨Nat.le_of_ble_eq_true rfl, Nat.le_of_ble_eq_true rfl⟩ rfl (Nat.le_of_ble_eq_true rfl) dX12_keep_230) (fun r230 h_230 => ?_)
  refine x_widen (k' := 0) (n' := 0) (Nat.le_of_ble_eq_true rfl) (Nat.le_of_ble_eq_true rfl) ?_
  refine h_iastL (iN := ((((186 + (52 * s)) + 26) + 18) + 1)) hE hr0 (nI_clamp (by omega)) (nI_pos (by omega)) (by omega) dX12_keep_233 ?_
  refine x_rho (fun ρ_233 hρ_233 => ?_)
  have hk : ∀ j, j < 186 → ρ_233 (r 0) j = ρ (r 0) j := fun j hj => Eq.trans (by rw [hρ_233, va_up_self, pk_un (by omega)]) (hk j hj)
  refine x_iinc (v := 2) (lv' := [(3, .int 2), (2, .int 6), (1, .int (nI (186 + (52 * s)))), (0, .ref m)]) hE dX12_keep_234 0 rfl (by decide) (by decide) rfl ?_
  refine x_goto (tgt := 206) hE dX12_keep_237 (by decide) ?_
  refine x_iload_n hE dX12_keep_206 rfl 0 rfl ?_
  refine x_iconst (v := 3) hE dX12_keep_207 (by decide) ?_
  refine x_icmp_ge (tgt := 240) hE dX12_keep_208 (by decide) (fun c_208 => absurd c_208 (by decide)) (fun c_208 => ?_)
  refine x_aload_n hE dX12_keep_211 rfl 3 rfl ?_
  refine h_getr hE hM rfl inZX12 0 (by decide) q1394 rfl dX12_keep_212 ?_
  refine x_iload_n hE dX12_keep_215 rfl 2 rfl ?_
  refine x_bipush (v := 26) hE dX12_keep_216 (by decide) ?_
  refine x_iadd hE dX12_keep_218 ?_
  refine x_norm (y := nI ((186 + (52 * s)) + 26)) (nI_add ((186 + (52 * s))) (26)) ?_
  refine x_iconst (v := 3) hE dX12_keep_219 (by decide) ?_
  refine x_iload_n hE dX12_keep_220 rfl 1 rfl ?_
  refine x_imul hE dX12_keep_221 ?_
  refine x_norm (y := 18) (by decide) ?_
  refine x_iadd hE dX12_keep_222 ?_
  refine x_norm (y := nI (((186 + (52 * s)) + 26) + 18)) (nI_add (((186 + (52 * s)) + 26)) (18)) ?_
  refine x_iload_n hE dX12_keep_223 rfl 0 rfl ?_
  refine x_iadd hE dX12_keep_224 ?_
  refine x_norm (y := nI ((((186 + (52 * s)) + 26) + 18) + 2)) (nI_add ((((186 + (52 * s)) + 26) + 18)) (2)) ?_
  refine x_aload_n hE dX12_keep_225 rfl 3 rfl ?_
  refine x_iload_n hE dX12_keep_226 rfl 1 rfl ?_
  refine x_iconst (v := 2) hE dX12_keep_227 (by decide) ?_
  refine x_iload_n hE dX12_keep_228 rfl 0 rfl ?_
  refine x_iadd hE dX12_keep_229 ?_
  refine x_norm (y := 4) (by decide) ?_
  refine c_ip hE (r_V (st := [.int (nI ((((186 + (52 * s)) + 26) + 18) + 2)), .ref (r 0)]) hE (m_get l D cy L σ φ ρ_233 6 4 hm (by omega) (by omega)) q1753 q1755 q70 q124 q1756 hM rfl ⟨by decide, by decide, pn_X12_get⟩ ⟨Nat.le_of_ble_eq_true rfl, Nat.le_of_ble_eq_true rfl⟩ ⟨Nat.le_of_ble_eq_true rfl, Nat.le_of_ble_eq_true rfl⟩ rfl (Nat.le_of_ble_eq_true rfl) dX12_keep_230) (fun r230 h_230 => ?_)
  refine x_widen (k' := 0) (n' := 0) (Nat.le_of_ble_eq_true rfl) (Nat.le_of_ble_eq_true rfl) ?_
  refine h_iastL (iN := ((((186 + (52 * s)) + 26) + 18) + 2)) hE hr0 (nI_clamp (by omega)) (nI_pos (by omega)) (by omega) dX12_keep_233 ?_
  refine x_rho (fun ρ_233 hρ_233 => ?_)
  have hk : ∀ j, j < 186 → ρ_233 (r 0) j = ρ (r 0) j := fun j hj => Eq.trans (by rw [hρ_233, va_up_self, pk_un (by omega)]) (hk j hj)
  refine x_iinc (v := 3) (lv' := [(3, .int 3), (2, .int 6), (1, .int (nI (186 + (52 * s)))), (0, .ref m)]) hE dX12_keep_234 0 rfl (by decide) (by decide) rfl ?_
  refine x_goto (tgt := 206) hE dX12_keep_237 (by decide) ?_
  refine x_iload_n hE dX12_keep_206 rfl 0 rfl ?_
  refine x_iconst (v := 3) hE dX12_keep_207 (by decide) ?_
  refine x_icmp_ge (tgt := 240) hE dX12_keep_208 (by decide) (fun c_208 => ?_) (fun c_208 => absurd (by decide) c_208)
  refine x_iinc (v := 7) (lv' := [(2, .int 7), (3, .int 3), (1, .int (nI (186 + (52 * s)))), (0, .ref m)]) hE dX12_keep_240 1 rfl (by decide) (by decide) rfl ?_
  refine x_goto (tgt := 198) hE dX12_keep_243 (by decide) ?_
  refine x_iload_n hE dX12_keep_198 rfl 0 rfl ?_
  refine x_bipush (v := 8) hE dX12_keep_199 (by decide) ?_
  refine x_icmp_ge (tgt := 246) hE dX12_keep_201 (by decide) (fun c_201 => absurd c_201 (by decide)) (fun c_201 => ?_)
  refine x_iconst (v := 0) hE dX12_keep_204 (by decide) ?_
  refine x_istore_n (lv' := [(3, .int 0), (2, .int 7), (1, .int (nI (186 + (52 * s)))), (0, .ref m)]) hE dX12_keep_205 rfl (by decide) rfl ?_
  refine x_iload_n hE dX12_keep_206 rfl 0 rfl ?_
  refine x_iconst (v := 3) hE dX12_keep_207 (by decide) ?_
  refine x_icmp_ge (tgt := 240) hE dX12_keep_208 (by decide) (fun c_208 => absurd c_208 (by decide)) (fun c_208 => ?_)
  refine x_aload_n hE dX12_keep_211 rfl 3 rfl ?_
  refine h_getr hE hM rfl inZX12 0 (by decide) q1394 rfl dX12_keep_212 ?_
  refine x_iload_n hE dX12_keep_215 rfl 2 rfl ?_
  refine x_bipush (v := 26) hE dX12_keep_216 (by decide) ?_
  refine x_iadd hE dX12_keep_218 ?_
  refine x_norm (y := nI ((186 + (52 * s)) + 26)) (nI_add ((186 + (52 * s))) (26)) ?_
  refine x_iconst (v := 3) hE dX12_keep_219 (by decide) ?_
  refine x_iload_n hE dX12_keep_220 rfl 1 rfl ?_
  refine x_imul hE dX12_keep_221 ?_
  refine x_norm (y := 21) (by decide) ?_
  refine x_iadd hE dX12_keep_222 ?_
  refine x_norm (y := nI (((186 + (52 * s)) + 26) + 21)) (nI_add (((186 + (52 * s)) + 26)) (21)) ?_
  refine x_iload_n hE dX12_keep_223 rfl 0 rfl ?_
  refine x_iadd hE dX12_keep_224 ?_
  refine x_norm (y := nI ((((186 + (52 * s)) + 26) + 21) + 0)) (nI_add ((((186 + (52 * s)) + 26) + 21)) (0)) ?_
  refine x_aload_n hE dX12_keep_225 rfl 3 rfl ?_
  refine x_iload_n hE dX12_keep_226 rfl 1 rfl ?_
  refine x_iconst (v := 2) hE dX12_keep_227 (by decide) ?_
  refine x_iload_n hE dX12_keep_228 rfl 0 rfl ?_
  refine x_iadd hE dX12_keep_229 ?_
  refine x_norm (y := 2) (by decide) ?_
  refine c_ip hE (r_V (st := [.int (nI ((((186 + (52 * s)) + 26) + 21) + 0)), .ref (r 0)]) hE (m_get l D cy L σ φ ρ_233 7 2 hm (by omega) (by omega)) q1753 q1755 q70 q124 q1756 hM rfl ⟨by decide, by decide, pn_X12_get⟩ ⟨Nat.le_of_ble_eq_true rfl, Nat.le_of_ble_eq_true rfl⟩ ⟨Nat.le_of_ble_eq_true rfl, Nat.le_of_ble_eq_true rfl⟩ rfl (Nat.le_of_ble_eq_true rfl) dX12_keep_230) (fun r230 h_230 => ?_)
  refine x_widen (k' := 0) (n' := 0) (Nat.le_of_ble_eq_true rfl) (Nat.le_of_ble_eq_true rfl) ?_
  refine h_iastL (iN := ((((186 + (52 * s)) + 26) + 21) + 0)) hE hr0 (nI_clamp (by omega)) (nI_pos (by omega)) (by omega) dX12_keep_233 ?_
  refine x_rho (fun ρ_233 hρ_233 => ?_)
  have hk : ∀ j, j < 186 → ρ_233 (r 0) j = ρ (r 0) j := fun j hj => Eq.trans (by rw [hρ_233, va_up_self, pk_un (by omega)]) (hk j hj)
  refine x_iinc (v := 1) (lv' := [(3, .int 1), (2, .int 7), (1, .int (nI (186 + (52 * s)))), (0, .ref m)]) hE dX12_keep_234 0 rfl (by decide) (by decide) rfl ?_
  refine x_goto (tgt := 206) hE dX12_keep_237 (by decide) ?_
  refine x_iload_n hE dX12_keep_206 rfl 0 rfl ?_
  refine x_iconst (v := 3) hE dX12_keep_207 (by decide) ?_
  refine x_icmp_ge (tgt := 240) hE dX12_keep_208 (by decide) (fun c_208 => absurd c_208 (by decide)) (fun c_208 => ?_)
  refine x_aload_n hE dX12_keep_211 rfl 3 rfl ?_
  refine h_getr hE hM rfl inZX12 0 (by decide) q1394 rfl dX12_keep_212 ?_
  refine x_iload_n hE dX12_keep_215 rfl 2 rfl ?_
  refine x_bipush (v := 26) hE dX12_keep_216 (by decide) ?_
  refine x_iadd hE dX12_keep_218 ?_
  refine x_norm (y := nI ((186 + (52 * s)) + 26)) (nI_add ((186 + (52 * s))) (26)) ?_
  refine x_iconst (v := 3) hE dX12_keep_219 (by decide) ?_
  refine x_iload_n hE dX12_keep_220 rfl 1 rfl ?_
  refine x_imul hE dX12_keep_221 ?_
  refine x_norm (y := 21) (by decide) ?_
  refine x_iadd hE dX12_keep_222 ?_
  refine x_norm (y := nI (((186 + (52 * s)) + 26) + 21)) (nI_add (((186 + (52 * s)) + 26)) (21)) ?_
  refine x_iload_n hE dX12_keep_223 rfl 0 rfl ?_
  refine x_iadd hE dX12_keep_224 ?_
  refine x_norm (y := nI ((((186 + (52 * s)) + 26) + 21) + 1)) (nI_add ((((186 + (52 * s)) + 26) + 21)) (1)) ?_
  refine x_aload_n hE dX12_keep_225 rfl 3 rfl ?_
  refine x_iload_n hE dX12_keep_226 rfl 1 rfl ?_
  refine x_iconst (v := 2) hE dX12_keep_227 (by decide) ?_
  refine x_iload_n hE dX12_keep_228 rfl 0 rfl ?_
  refine x_iadd hE dX12_keep_229 ?_
  refine x_norm (y := 3) (by decide) ?_
  refine c_ip hE (r_V (st := [.int (nI ((((186 + (52 * s)) + 26) + 21) + 1)), .ref (r 0)]) hE (m_get l D cy L σ φ ρ_233 7 3 hm (by omega) (by omega)) q1753 q1755 q70 q124 q1756 hM rfl ⟨by decide, by decide, pn_X12_get⟩ ⟨Nat.le_of_ble_eq_true rfl, Nat.le_of_ble_eq_true rfl⟩ ⟨Nat.le_of_ble_eq_true rfl, Nat.le_of_ble_eq_true rfl⟩ rfl (Nat.le_of_ble_eq_true rfl) dX12_keep_230) (fun r230 h_230 => ?_)
  refine x_widen (k' := 0) (n' := 0) (Nat.le_of_ble_eq_true rfl) (Nat.le_of_ble_eq_true rfl) ?_
  refine h_iastL (iN := ((((186 + (52 * s)) + 26) + 21) + 1)) hE hr0 (nI_clamp (by omega)) (nI_pos (by omega)) (by omega) dX12_keep_233 ?_
  refine x_rho (fun ρ_233 hρ_233 => ?_)
  have hk : ∀ j, j < 186 → ρ_233 (r 0) j = ρ (r 0) j := fun j hj => Eq.trans (by rw [hρ_233, va_up_self, pk_un (by omega)]) (hk j hj)
  refine x_iinc (v := 2) (lv' := [(3, .int 2), (2, .int 7), (1, .int (nI (186 + (52 * s)))), (0, .ref m)]) hE dX12_keep_234 0 rfl (by decide) (by decide) rfl ?_
  refine x_goto (tgt := 206) hE dX12_keep_237 (by decide) ?_
  refine x_iload_n hE dX12_keep_206 rfl 0 rfl ?_
  refine x_iconst (v := 3) hE dX12_keep_207 (by decide) ?_
  refine x_icmp_ge (tgt := 240) hE dX12_keep_208 (by decide) (fun c_208 => absurd c_208 (by decide)) (fun c_208 => ?_)
  refine x_aload_n hE dX12_keep_211 rfl 3 rfl ?_
  refine h_getr hE hM rfl inZX12 0 (by decide) q1394 rfl dX12_keep_212 ?_
  refine x_iload_n hE dX12_keep_215 rfl 2 rfl ?_
  refine x_bipush (v := 26) hE dX12_keep_216 (by decide) ?_
  refine x_iadd hE dX12_keep_218 ?_
  refine x_norm (y := nI ((186 + (52 * s)) + 26)) (nI_add ((186 + (52 * s))) (26)) ?_
  refine x_iconst (v := 3) hE dX12_keep_219 (by decide) ?_
  refine x_iload_n hE dX12_keep_220 rfl 1 rfl ?_
  refine x_imul hE dX12_keep_221 ?_
  refine x_norm (y := 21) (by decide) ?_
  refine x_iadd hE dX12_keep_222 ?_
  refine x_norm (y := nI (((186 + (52 * s)) + 26) + 21)) (nI_add (((186 + (52 * s)) + 26)) (21)) ?_
  refine x_iload_n hE dX12_keep_223 rfl 0 rfl ?_
  refine x_iadd hE dX12_keep_224 ?_
  refine x_norm (y := nI ((((186 + (52 * s)) + 26) + 21) + 2)) (nI_add ((((186 + (52 * s)) + 26) + 21)) (2)) ?_
  refine x_aload_n hE dX12_keep_225 rfl 3 rfl ?_
  refine x_iload_n hE dX12_keep_226 rfl 1 rfl ?_
  refine x_iconst (v := 2) hE dX12_keep_227 (by decide) ?_
  refine x_iload_n hE dX12_keep_228 rfl 0 rfl ?_
  refine x_iadd hE dX12_keep_229 ?_
  refine x_norm (y := 4) (by decide) ?_
  refine c_ip hE (r_V (st := [.int (nI ((((186 + (52 * s)) + 26) + 21) + 2)), .ref (r 0)]) hE (m_get l D cy L σ φ ρ_233 7 4 hm (by omega) (by omega)) q1753 q1755 q70 q124 q1756 hM rfl ⟨by decide, by decide, pn_X12_get⟩ ⟨Nat.le_of_ble_eq_true rfl, Nat.le_of_ble_eq_true rfl⟩ ⟨Nat.le_of_ble_eq_true rfl, Nat.le_of_ble_eq_true rfl⟩ rfl (Nat.le_of_ble_eq_true rfl) dX12_keep_230) (fun r230 h_230 => ?_)
  refine x_widen (k' := 0) (n' := 0) (Nat.le_of_ble_eq_true rfl) (Nat.le_of_ble_eq_true rfl) ?_
  refine h_iastL (iN := ((((186 + (52 * s)) + 26) + 21) + 2)) hE hr0 (nI_clamp (by omega)) (nI_pos (by omega)) (by omega) dX12_keep_233 ?_
  refine x_rho (fun ρ_233 hρ_233 => ?_)
  have hk : ∀ j, j < 186 → ρ_233 (r 0) j = ρ (r 0) j := fun j hj => Eq.trans (by rw [hρ_233, va_up_self, pk_un (by omega)]) (hk j hj)
  refine x_iinc (v := 3) (lv' := [(3, .int 3), (2, .int 7), (1, .int (nI (186 + (52 * s)))), (0, .ref m)]) hE dX12_keep_234 0 rfl (by decide) (by decide) rfl ?_
  refine x_goto (tgt := 206) hE dX12_keep_237 (by decide) ?_
  refine x_iload_n hE dX12_keep_206 rfl 0 rfl ?_
  refine x_iconst (v := 3) hE dX12_keep_207 (by decide) ?_
  refine x_icmp_ge (tgt := 240) hE dX12_keep_208 (by decide) (fun c_208 => ?_) (fun c_208 => absurd (by decide) c_208)
  refine x_iinc (v := 8) (lv' := [(2, .int 8), (3, .int 3), (1, .int (nI (186 + (52 * s)))), (0, .ref m)]) hE dX12_keep_240 1 rfl (by decide) (by decide) rfl ?_
  refine x_goto (tgt := 198) hE dX12_keep_243 (by decide) ?_
  refine x_iload_n hE dX12_keep_198 rfl 0 rfl ?_
  refine x_bipush (v := 8) hE dX12_keep_199 (by decide) ?_
  refine x_icmp_ge (tgt := 246) hE dX12_keep_201 (by decide) (fun c_201 => ?_) (fun c_201 => absurd (by decide) c_201)
  refine x_aload_n hE dX12_keep_246 rfl 3 rfl ?_
  refine h_getr hE hM rfl inZX12 0 (by decide) q1394 rfl dX12_keep_247 ?_
  refine x_bipush (v := 9) hE dX12_keep_250 (by decide) ?_
  refine x_dup2 hE dX12_keep_252 rfl rfl ?_
  refine h_ialdL (iN := 9) hE hr0 (by decide) (by decide) (by omega) dX12_keep_253 ?_
  refine x_norm (y := nI s) ((hk 9 (by omega)).trans hs) ?_
  refine x_iconst (v := 1) hE dX12_keep_254 (by decide) ?_
  refine x_iadd hE dX12_keep_255 ?_
  refine x_norm (y := nI (s + 1)) (nI_add (s) (1)) ?_
  refine h_iastL (iN := 9) hE hr0 (by decide) (by decide) (by omega) dX12_keep_256 ?_
  refine x_rho (fun ρ_256 hρ_256 => ?_)
  exact hret _ _ _ _ _ _ _ _ (Nat.le_of_ble_eq_true rfl) (Nat.le_of_ble_eq_true rfl) dX12_keep_257 (⟨rfl, rfl, rfl, fun j hj h9 => by show ρ_256 (r 0) j = _; rw [hρ_256, va_up_self, pk_un h9]; exact hk j hj, by show ρ_256 (r 0) 9 = _; rw [hρ_256, va_up_self, pk_us]⟩)
set_option maxHeartbeats 4000000 in
set_option maxRecDepth 100000 in
theorem m_rainAll (l : Launch) (D : va_G) (cy : Nat → ClassId) (L : List Nat) (σ : Nat → va_E) (φ : Nat → Nat → Nat → Int32) (ρ : Nat → Nat → Int32) {m : Nat} {r : Nat → Nat} (hm : zModel cy L σ m r) (h01 : ρ (r 0) 1 = 0) : zMI l D cy yX12_rainAll cX12_rainAll 3 .int (zrm 1 0 0) [.ref m] L σ φ ρ (zsa L σ (fun r' φ' ρ' => r' = 0 ∧ ρ' = ρ)) := by
  refine zMI.mk (by decide) (Nat.le_of_ble_eq_true rfl) (fun E hE hret => ?_)
  show zW E 0 0 L σ φ ρ 0 [(0, .ref m)] []
  obtain ⟨hM, hr0, hr1, hr2, hr3, hr15, hr16, hr22, hr25, hr26, hr27, hr28, hr29, hr32, hr33, hr34, hr39, hr41, hr42, hr43, hr44, hr45, hr46, hr47, hr48, hr49, hr50, hr51, hr52, hne⟩ := id hm
  refine x_aload_n hE dX12_rainAll_0 rfl 0 rfl ?_
  refine x_aload_n hE dX12_rainAll_1 rfl 0 rfl ?_
  refine h_geti hE hM rfl inZX12 38 (by decide) q1432 rfl dX12_rainAll_2 ?_
  refine x_if_eq (tgt := 17) hE dX12_rainAll_5 (by decide) (fun c_5 => ?_) (fun c_5 => ?_)
  · refine x_aload_n hE dX12_rainAll_17 rfl 0 rfl ?_
    refine h_geti hE hM rfl inZX12 36 (by decide) q1430 rfl dX12_rainAll_18 ?_
    refine h_puti (ty := .int) (ty0 := tyX12) hE hM rfl inZX12 tyX12_ok nmX12 36 (by decide) q1430 rfl rfl (by decide +kernel) rfl rfl dX12_rainAll_21 ?_
    refine x_iconst (v := 0) hE dX12_rainAll_24 (by decide) ?_
    refine x_istore_n (lv' := [(1, .int 0), (0, .ref m)]) hE dX12_rainAll_25 rfl (by decide) rfl ?_
    refine x_iload_n hE dX12_rainAll_26 rfl 0 rfl ?_
    refine x_aload_n hE dX12_rainAll_27 rfl 1 rfl ?_
    refine h_getr hE hM rfl inZX12 0 (by decide) q1394 rfl dX12_rainAll_28 ?_
    refine x_iconst (v := 1) hE dX12_rainAll_31 (by decide) ?_
    refine h_ialdL (iN := 1) hE hr0 (by decide) (by decide) (by omega) dX12_rainAll_32 ?_
    refine x_norm (y := 0) (h01) ?_
    refine x_icmp_ge (tgt := 70) hE dX12_rainAll_33 (by decide) (fun c_33 => ?_) (fun c_33 => absurd (by decide) c_33)
    refine x_iconst (v := 0) hE dX12_rainAll_70 (by decide) ?_
    refine x_istore_n (lv' := [(1, .int 0), (0, .ref m)]) hE dX12_rainAll_71 rfl (by decide) rfl ?_
    refine x_iconst (v := 0) hE dX12_rainAll_72 (by decide) ?_
    refine x_istore_n (lv' := [(2, .int 0), (1, .int 0), (0, .ref m)]) hE dX12_rainAll_73 rfl (by decide) rfl ?_
    refine x_iload_n hE dX12_rainAll_74 rfl 0 rfl ?_
    refine x_aload_n hE dX12_rainAll_75 rfl 2 rfl ?_
    refine h_getr hE hM rfl inZX12 0 (by decide) q1394 rfl dX12_rainAll_76 ?_
    refine x_iconst (v := 1) hE dX12_rainAll_79 (by decide) ?_
    refine h_ialdL (iN := 1) hE hr0 (by decide) (by decide) (by omega) dX12_rainAll_80 ?_
    refine x_norm (y := 0) (h01) ?_
    refine x_icmp_ge (tgt := 116) hE dX12_rainAll_81 (by decide) (fun c_81 => ?_) (fun c_81 => absurd (by decide) c_81)
    refine x_iload_n hE dX12_rainAll_116 rfl 1 rfl ?_
    exact hret _ _ _ _ _ _ _ _ (0) (Nat.le_of_ble_eq_true rfl) (Nat.le_of_ble_eq_true rfl) dX12_rainAll_117 (rfl) (⟨rfl, rfl, rfl, rfl⟩)
  · refine x_aload_n hE dX12_rainAll_8 rfl 0 rfl ?_
    refine h_getr hE hM rfl inZX12 0 (by decide) q1394 rfl dX12_rainAll_9 ?_
    refine x_iconst (v := 2) hE dX12_rainAll_12 (by decide) ?_
    refine h_ialdL (iN := 2) hE hr0 (by decide) (by decide) (by omega) dX12_rainAll_13 ?_
    refine x_goto (tgt := 21) hE dX12_rainAll_14 (by decide) ?_
    refine h_puti (ty := .int) (ty0 := tyX12) hE hM rfl inZX12 tyX12_ok nmX12 36 (by decide) q1430 rfl rfl (by decide +kernel) rfl rfl dX12_rainAll_21 ?_
    refine x_iconst (v := 0) hE dX12_rainAll_24 (by decide) ?_
    refine x_istore_n (lv' := [(1, .int 0), (0, .ref m)]) hE dX12_rainAll_25 rfl (by decide) rfl ?_
    refine x_iload_n hE dX12_rainAll_26 rfl 0 rfl ?_
    refine x_aload_n hE dX12_rainAll_27 rfl 1 rfl ?_
    refine h_getr hE hM rfl inZX12 0 (by decide) q1394 rfl dX12_rainAll_28 ?_
    refine x_iconst (v := 1) hE dX12_rainAll_31 (by decide) ?_
    refine h_ialdL (iN := 1) hE hr0 (by decide) (by decide) (by omega) dX12_rainAll_32 ?_
    refine x_norm (y := 0) (h01) ?_
    refine x_icmp_ge (tgt := 70) hE dX12_rainAll_33 (by decide) (fun c_33 => ?_) (fun c_33 => absurd (by decide) c_33)
    refine x_iconst (v := 0) hE dX12_rainAll_70 (by decide) ?_
    refine x_istore_n (lv' := [(1, .int 0), (0, .ref m)]) hE dX12_rainAll_71 rfl (by decide) rfl ?_
    refine x_iconst (v := 0) hE dX12_rainAll_72 (by decide) ?_
    refine x_istore_n (lv' := [(2, .int 0), (1, .int 0), (0, .ref m)]) hE dX12_rainAll_73 rfl (by decide) rfl ?_
    refine x_iload_n hE dX12_rainAll_74 rfl 0 rfl ?_
    refine x_aload_n hE dX12_rainAll_75 rfl 2 rfl ?_
    refine h_getr hE hM rfl inZX12 0 (by decide) q1394 rfl dX12_rainAll_76 ?_
    refine x_iconst (v := 1) hE dX12_rainAll_79 (by decide) ?_
    refine h_ialdL (iN := 1) hE hr0 (by decide) (by decide) (by omega) dX12_rainAll_80 ?_
    refine x_norm (y := 0) (h01) ?_
    refine x_icmp_ge (tgt := 116) hE dX12_rainAll_81 (by decide) (fun c_81 => ?_) (fun c_81 => absurd (by decide) c_81)
    refine x_iload_n hE dX12_rainAll_116 rfl 1 rfl ?_
    exact hret _ _ _ _ _ _ _ _ (0) (Nat.le_of_ble_eq_true rfl) (Nat.le_of_ble_eq_true rfl) dX12_rainAll_117 (rfl) (⟨rfl, rfl, rfl, rfl⟩)
set_option maxHeartbeats 4000000 in
set_option maxRecDepth 100000 in
theorem m_dryAll (l : Launch) (D : va_G) (cy : Nat → ClassId) (L : List Nat) (σ : Nat → va_E) (φ : Nat → Nat → Nat → Int32) (ρ : Nat → Nat → Int32) {m : Nat} {r : Nat → Nat} (hm : zModel cy L σ m r) (h00 : ρ (r 0) 0 = 0) : zMV l D cy yX12_dryAll cX12_dryAll 4 (zrm 1 0 0) [.ref m] L σ φ ρ (zsv L σ (fun φ' ρ' => φ' = φ ∧ ρ' = ρ)) := by
  refine zMV.mk (by decide) (Nat.le_of_ble_eq_true rfl) (fun E hE hI hret => ?_)
  show zW E 0 0 L σ φ ρ 0 [(0, .ref m)] []
  obtain ⟨hM, hr0, hr1, hr2, hr3, hr15, hr16, hr22, hr25, hr26, hr27, hr28, hr29, hr32, hr33, hr34, hr39, hr41, hr42, hr43, hr44, hr45, hr46, hr47, hr48, hr49, hr50, hr51, hr52, hne⟩ := id hm
  refine x_iconst (v := 0) hE dX12_dryAll_0 (by decide) ?_
  refine x_istore_n (lv' := [(1, .int 0), (0, .ref m)]) hE dX12_dryAll_1 rfl (by decide) rfl ?_
  refine x_iload_n hE dX12_dryAll_2 rfl 0 rfl ?_
  refine x_aload_n hE dX12_dryAll_3 rfl 1 rfl ?_
  refine h_getr hE hM rfl inZX12 0 (by decide) q1394 rfl dX12_dryAll_4 ?_
  refine x_iconst (v := 0) hE dX12_dryAll_7 (by decide) ?_
  refine h_ialdL (iN := 0) hE hr0 (by decide) (by decide) (by omega) dX12_dryAll_8 ?_
  refine x_norm (y := 0) (h00) ?_
  refine x_icmp_ge (tgt := 84) hE dX12_dryAll_9 (by decide) (fun c_9 => ?_) (fun c_9 => absurd (by decide) c_9)
  refine x_iconst (v := 0) hE dX12_dryAll_84 (by decide) ?_
  refine x_istore_n (lv' := [(1, .int 0), (0, .ref m)]) hE dX12_dryAll_85 rfl (by decide) rfl ?_
  refine x_iload_n hE dX12_dryAll_86 rfl 0 rfl ?_
  refine x_aload_n hE dX12_dryAll_87 rfl 1 rfl ?_
  refine h_getr hE hM rfl inZX12 0 (by decide) q1394 rfl dX12_dryAll_88 ?_
  refine x_iconst (v := 0) hE dX12_dryAll_91 (by decide) ?_
  refine h_ialdL (iN := 0) hE hr0 (by decide) (by decide) (by omega) dX12_dryAll_92 ?_
  refine x_norm (y := 0) (h00) ?_
  refine x_icmp_ge (tgt := 156) hE dX12_dryAll_93 (by decide) (fun c_93 => ?_) (fun c_93 => absurd (by decide) c_93)
  exact hret _ _ _ _ _ _ _ _ (Nat.le_of_ble_eq_true rfl) (Nat.le_of_ble_eq_true rfl) dX12_dryAll_156 (⟨rfl, rfl, rfl, rfl⟩)
set_option maxHeartbeats 4000000 in
set_option maxRecDepth 100000 in
theorem m_pass (l : Launch) (D : va_G) (cy : Nat → ClassId) (L : List Nat) (σ : Nat → va_E) (φ : Nat → Nat → Nat → Int32) (ρ : Nat → Nat → Int32) {m : Nat} {r : Nat → Nat} (h : Nat) (hm : zModel cy L σ m r) (h00 : ρ (r 0) 0 = 0) (h01 : ρ (r 0) 1 = 0) (h02 : ρ (r 0) 2 = nI h) (hlt : h < 999) : zMI l D cy yX12_pass cX12_pass 3 .int (zrm 2 0 0) [.ref m] L σ φ ρ (zsa L σ (fun r' φ' ρ' => r' = 0 ∧ (∀ j, j < 186 → j ≠ 2 → ρ' (r 0) j = ρ (r 0) j) ∧ ρ' (r 0) 2 = nI (h + 1))) := by
  refine zMI.mk (by decide) (Nat.le_of_ble_eq_true rfl) (fun E hE hret => ?_)
  show zW E 0 0 L σ φ ρ 0 [(0, .ref m)] []
  obtain ⟨hM, hr0, hr1, hr2, hr3, hr15, hr16, hr22, hr25, hr26, hr27, hr28, hr29, hr32, hr33, hr34, hr39, hr41, hr42, hr43, hr44, hr45, hr46, hr47, hr48, hr49, hr50, hr51, hr52, hne⟩ := id hm
  have hk : ∀ j, j < 186 → ρ (r 0) j = ρ (r 0) j := fun _ _ => rfl
  refine x_aload_n hE dX12_pass_0 rfl 0 rfl ?_
  refine x_iconst (v := 1) hE dX12_pass_1 (by decide) ?_
  refine h_puti (ty := .boolean) (ty0 := tyX12) hE hM rfl inZX12 tyX12_ok nmX12 38 (by decide) q1432 rfl rfl (by decide +kernel) rfl rfl dX12_pass_2 ?_
  refine x_aload_n hE dX12_pass_5 rfl 0 rfl ?_
  refine c_is hE (r_V (st := []) hE (m_rainAll l D cy L σ (zup φ 12 38 m (1)) ρ hm h01) q1773 q1775 q74 q124 q1776 hM rfl ⟨by decide, by decide, pn_X12_rainAll⟩ ⟨Nat.le_of_ble_eq_true rfl, Nat.le_of_ble_eq_true rfl⟩ ⟨Nat.le_of_ble_eq_true rfl, Nat.le_of_ble_eq_true rfl⟩ rfl (Nat.le_of_ble_eq_true rfl) dX12_pass_6) (fun ra φa ρa ha => ?_)
  refine x_widen (k' := 0) (n' := 0) (Nat.le_of_ble_eq_true rfl) (Nat.le_of_ble_eq_true rfl) ?_
  obtain ⟨ha1, ha2⟩ := ha
  rw [ha2]
  refine x_norm (y := 0) (ha1) ?_
  refine x_istore_n (lv' := [(1, .int 0), (0, .ref m)]) hE dX12_pass_9 rfl (by decide) rfl ?_
  refine x_aload_n hE dX12_pass_10 rfl 1 rfl ?_
  refine c_vs hE (r_V (st := []) hE (m_dryAll l D cy L σ φa ρ hm h00) q1832 q1834 q86 q124 q1835 hM rfl ⟨by decide, by decide, pn_X12_dryAll⟩ ⟨Nat.le_of_ble_eq_true rfl, Nat.le_of_ble_eq_true rfl⟩ ⟨Nat.le_of_ble_eq_true rfl, Nat.le_of_ble_eq_true rfl⟩ rfl (Nat.le_of_ble_eq_true rfl) dX12_pass_11) (fun φb ρb hb => ?_)
  refine x_widen (k' := 0) (n' := 0) (Nat.le_of_ble_eq_true rfl) (Nat.le_of_ble_eq_true rfl) ?_
  obtain ⟨hb1, hb2⟩ := hb
  rw [hb1, hb2]
  refine x_iconst (v := 0) hE dX12_pass_14 (by decide) ?_
  refine x_istore_n (lv' := [(2, .int 0), (1, .int 0), (0, .ref m)]) hE dX12_pass_15 rfl (by decide) rfl ?_
  refine x_iload_n hE dX12_pass_16 rfl 0 rfl ?_
  refine x_bipush (v := 8) hE dX12_pass_17 (by decide) ?_
  refine x_icmp_ge (tgt := 68) hE dX12_pass_19 (by decide) (fun c_19 => absurd c_19 (by decide)) (fun c_19 => ?_)
  refine x_aload_n hE dX12_pass_22 rfl 2 rfl ?_
  refine h_getr hE hM rfl inZX12 0 (by decide) q1394 rfl dX12_pass_23 ?_
  refine x_sipush (v := 9938) hE dX12_pass_26 (by decide) ?_
  refine x_bipush (v := 8) hE dX12_pass_29 (by decide) ?_
  refine x_aload_n hE dX12_pass_31 rfl 2 rfl ?_
  refine h_getr hE hM rfl inZX12 0 (by decide) q1394 rfl dX12_pass_32 ?_
  refine x_iconst (v := 2) hE dX12_pass_35 (by decide) ?_
  refine h_ialdL (iN := 2) hE hr0 (by decide) (by decide) (by omega) dX12_pass_36 ?_
  refine x_norm (y := nI h) ((hk 2 (by omega)).trans h02) ?_
  refine x_imul hE dX12_pass_37 ?_
  refine x_norm (y := nI (8 * h)) (pk_mul (8) (h)) ?_
  refine x_iadd hE dX12_pass_38 ?_
  refine x_norm (y := nI (9938 + (8 * h))) (nI_add (9938) ((8 * h))) ?_
  refine x_iload_n hE dX12_pass_39 rfl 0 rfl ?_
  refine x_iadd hE dX12_pass_40 ?_
  refine x_norm (y := nI ((9938 + (8 * h)) + 0)) (nI_add ((9938 + (8 * h))) (0)) ?_
  refine x_iload_n hE dX12_pass_41 rfl 0 rfl ?_
  refine x_aload_n hE dX12_pass_42 rfl 2 rfl ?_
  refine h_getr hE hM rfl inZX12 0 (by decide) q1394 rfl dX12_pass_43 ?_
  refine x_iconst (v := 1) hE dX12_pass_46 (by decide) ?_
  refine h_ialdL (iN := 1) hE hr0 (by decide) (by decide) (by omega) dX12_pass_47 ?_
  refine x_norm (y := 0) ((hk 1 (by omega)).trans h01) ?_
  refine x_icmp_ge (tgt := 60) hE dX12_pass_48 (by decide) (fun c_48 => ?_) (fun c_48 => absurd (by decide) c_48)
  refine x_iconst (v := -1) hE dX12_pass_60 (by decide) ?_
  refine h_iastL (iN := ((9938 + (8 * h)) + 0)) hE hr0 (nI_clamp (by omega)) (nI_pos (by omega)) (by omega) dX12_pass_61 ?_
  refine x_rho (fun ρ_61 hρ_61 => ?_)
  have hk : ∀ j, j < 186 → ρ_61 (r 0) j = ρ (r 0) j := fun j hj => Eq.trans (by rw [hρ_61, va_up_self, pk_un (by omega)]) (hk j hj)
  refine x_iinc (v := 1) (lv' := [(2, .int 1), (1, .int 0), (0, .ref m)]) hE dX12_pass_62 0 rfl (by decide) (by decide) rfl ?_
  refine x_goto (tgt := 16) hE dX12_pass_65 (by decide) ?_
  refine x_iload_n hE dX12_pass_16 rfl 0 rfl ?_
  refine x_bipush (v := 8) hE dX12_pass_17 (by decide) ?_
  refine x_icmp_ge (tgt := 68) hE dX12_pass_19 (by decide) (fun c_19 => absurd c_19 (by decide)) (fun c_19 => ?_)
  refine x_aload_n hE dX12_pass_22 rfl 2 rfl ?_
  refine h_getr hE hM rfl inZX12 0 (by decide) q1394 rfl dX12_pass_23 ?_
  refine x_sipush (v := 9938) hE dX12_pass_26 (by decide) ?_
  refine x_bipush (v := 8) hE dX12_pass_29 (by decide) ?_
  refine x_aload_n hE dX12_pass_31 rfl 2 rfl ?_
  refine h_getr hE hM rfl inZX12 0 (by decide) q1394 rfl dX12_pass_32 ?_
  refine x_iconst (v := 2) hE dX12_pass_35 (by decide) ?_
  refine h_ialdL (iN := 2) hE hr0 (by decide) (by decide) (by omega) dX12_pass_36 ?_
  refine x_norm (y := nI h) ((hk 2 (by omega)).trans h02) ?_
  refine x_imul hE dX12_pass_37 ?_
  refine x_norm (y := nI (8 * h)) (pk_mul (8) (h)) ?_
  refine x_iadd hE dX12_pass_38 ?_
  refine x_norm (y := nI (9938 + (8 * h))) (nI_add (9938) ((8 * h))) ?_
  refine x_iload_n hE dX12_pass_39 rfl 0 rfl ?_
  refine x_iadd hE dX12_pass_40 ?_
  refine x_norm (y := nI ((9938 + (8 * h)) + 1)) (nI_add ((9938 + (8 * h))) (1)) ?_
  refine x_iload_n hE dX12_pass_41 rfl 0 rfl ?_
  refine x_aload_n hE dX12_pass_42 rfl 2 rfl ?_
  refine h_getr hE hM rfl inZX12 0 (by decide) q1394 rfl dX12_pass_43 ?_
  refine x_iconst (v := 1) hE dX12_pass_46 (by decide) ?_
  refine h_ialdL (iN := 1) hE hr0 (by decide) (by decide) (by omega) dX12_pass_47 ?_
  refine x_norm (y := 0) ((hk 1 (by omega)).trans h01) ?_
  refine x_icmp_ge (tgt := 60) hE dX12_pass_48 (by decide) (fun c_48 => ?_) (fun c_48 => absurd (by decide) c_48)
  refine x_iconst (v := -1) hE dX12_pass_60 (by decide) ?_
  refine h_iastL (iN := ((9938 + (8 * h)) + 1)) hE hr0 (nI_clamp (by omega)) (nI_pos (by omega)) (by omega) dX12_pass_61 ?_
  refine x_rho (fun ρ_61 hρ_61 => ?_)
  have hk : ∀ j, j < 186 → ρ_61 (r 0) j = ρ (r 0) j := fun j hj => Eq.trans (by rw [hρ_61, va_up_self, pk_un (by omega)]) (hk j hj)
  refine x_iinc (v := 2) (lv' := [(2, .int 2), (1, .int 0), (0, .ref m)]) hE dX12_pass_62 0 rfl (by decide) (by decide) rfl ?_
  refine x_goto (tgt := 16) hE dX12_pass_65 (by decide) ?_
  refine x_iload_n hE dX12_pass_16 rfl 0 rfl ?_
  refine x_bipush (v := 8) hE dX12_pass_17 (by decide) ?_
  refine x_icmp_ge (tgt := 68) hE dX12_pass_19 (by decide) (fun c_19 => absurd c_19 (by decide)) (fun c_19 => ?_)
  refine x_aload_n hE dX12_pass_22 rfl 2 rfl ?_
  refine h_getr hE hM rfl inZX12 0 (by decide) q1394 rfl dX12_pass_23 ?_
  refine x_sipush (v := 9938) hE dX12_pass_26 (by decide) ?_
  refine x_bipush (v := 8) hE dX12_pass_29 (by decide) ?_
  refine x_aload_n hE dX12_pass_31 rfl 2 rfl ?_
  refine h_getr hE hM rfl inZX12 0 (by decide) q1394 rfl dX12_pass_32 ?_
  refine x_iconst (v := 2) hE dX12_pass_35 (by decide) ?_
  refine h_ialdL (iN := 2) hE hr0 (by decide) (by decide) (by omega) dX12_pass_36 ?_
  refine x_norm (y := nI h) ((hk 2 (by omega)).trans h02) ?_
  refine x_imul hE dX12_pass_37 ?_
  refine x_norm (y := nI (8 * h)) (pk_mul (8) (h)) ?_
  refine x_iadd hE dX12_pass_38 ?_
  refine x_norm (y := nI (9938 + (8 * h))) (nI_add (9938) ((8 * h))) ?_
  refine x_iload_n hE dX12_pass_39 rfl 0 rfl ?_
  refine x_iadd hE dX12_pass_40 ?_
  refine x_norm (y := nI ((9938 + (8 * h)) + 2)) (nI_add ((9938 + (8 * h))) (2)) ?_
  refine x_iload_n hE dX12_pass_41 rfl 0 rfl ?_
  refine x_aload_n hE dX12_pass_42 rfl 2 rfl ?_
  refine h_getr hE hM rfl inZX12 0 (by decide) q1394 rfl dX12_pass_43 ?_
  refine x_iconst (v := 1) hE dX12_pass_46 (by decide) ?_
  refine h_ialdL (iN := 1) hE hr0 (by decide) (by decide) (by omega) dX12_pass_47 ?_
  refine x_norm (y := 0) ((hk 1 (by omega)).trans h01) ?_
  refine x_icmp_ge (tgt := 60) hE dX12_pass_48 (by decide) (fun c_48 => ?_) (fun c_48 => absurd (by decide) c_48)
  refine x_iconst (v := -1) hE dX12_pass_60 (by decide) ?_
  refine h_iastL (iN := ((9938 + (8 * h)) + 2)) hE hr0 (nI_clamp (by omega)) (nI_pos (by omega)) (by omega) dX12_pass_61 ?_
  refine x_rho (fun ρ_61 hρ_61 => ?_)
  have hk : ∀ j, j < 186 → ρ_61 (r 0) j = ρ (r 0) j := fun j hj => Eq.trans (by rw [hρ_61, va_up_self, pk_un (by omega)]) (hk j hj)
  refine x_iinc (v := 3) (lv' := [(2, .int 3), (1, .int 0), (0, .ref m)]) hE dX12_pass_62 0 rfl (by decide) (by decide) rfl ?_
  refine x_goto (tgt := 16) hE dX12_pass_65 (by decide) ?_
  refine x_iload_n hE dX12_pass_16 rfl 0 rfl ?_
  refine x_bipush (v := 8) hE dX12_pass_17 (by decide) ?_
  refine x_icmp_ge (tgt := 68) hE dX12_pass_19 (by decide) (fun c_19 => absurd c_19 (by decide)) (fun c_19 => ?_)
  refine x_aload_n hE dX12_pass_22 rfl 2 rfl ?_
  refine h_getr hE hM rfl inZX12 0 (by decide) q1394 rfl dX12_pass_23 ?_
  refine x_sipush (v := 9938) hE dX12_pass_26 (by decide) ?_
  refine x_bipush (v := 8) hE dX12_pass_29 (by decide) ?_
  refine x_aload_n hE dX12_pass_31 rfl 2 rfl ?_
  refine h_getr hE hM rfl inZX12 0 (by decide) q1394 rfl dX12_pass_32 ?_
  refine x_iconst (v := 2) hE dX12_pass_35 (by decide) ?_
  refine h_ialdL (iN := 2) hE hr0 (by decide) (by decide) (by omega) dX12_pass_36 ?_
  refine x_norm (y := nI h) ((hk 2 (by omega)).trans h02) ?_
  refine x_imul hE dX12_pass_37 ?_
  refine x_norm (y := nI (8 * h)) (pk_mul (8) (h)) ?_
  refine x_iadd hE dX12_pass_38 ?_
  refine x_norm (y := nI (9938 + (8 * h))) (nI_add (9938) ((8 * h))) ?_
  refine x_iload_n hE dX12_pass_39 rfl 0 rfl ?_
  refine x_iadd hE dX12_pass_40 ?_
  refine x_norm (y := nI ((9938 + (8 * h)) + 3)) (nI_add ((9938 + (8 * h))) (3)) ?_
  refine x_iload_n hE dX12_pass_41 rfl 0 rfl ?_
  refine x_aload_n hE dX12_pass_42 rfl 2 rfl ?_
  refine h_getr hE hM rfl inZX12 0 (by decide) q1394 rfl dX12_pass_43 ?_
  refine x_iconst (v := 1) hE dX12_pass_46 (by decide) ?_
  refine h_ialdL (iN := 1) hE hr0 (by decide) (by decide) (by omega) dX12_pass_47 ?_
  refine x_norm (y := 0) ((hk 1 (by omega)).trans h01) ?_
  refine x_icmp_ge (tgt := 60) hE dX12_pass_48 (by decide) (fun c_48 => ?_) (fun c_48 => absurd (by decide) c_48)
  refine x_iconst (v := -1) hE dX12_pass_60 (by decide) ?_
  refine h_iastL (iN := ((9938 + (8 * h)) + 3)) hE hr0 (nI_clamp (by omega)) (nI_pos (by omega)) (by omega) dX12_pass_61 ?_
  refine x_rho (fun ρ_61 hρ_61 => ?_)
  have hk : ∀ j, j < 186 → ρ_61 (r 0) j = ρ (r 0) j := fun j hj => Eq.trans (by rw [hρ_61, va_up_self, pk_un (by omega)]) (hk j hj)
  refine x_iinc (v := 4) (lv' := [(2, .int 4), (1, .int 0), (0, .ref m)]) hE dX12_pass_62 0 rfl (by decide) (by decide) rfl ?_
  refine x_goto (tgt := 16) hE dX12_pass_65 (by decide) ?_
  refine x_iload_n hE dX12_pass_16 rfl 0 rfl ?_
  refine x_bipush (v := 8) hE dX12_pass_17 (by decide) ?_
  refine x_icmp_ge (tgt := 68) hE dX12_pass_19 (by decide) (fun c_19 => absurd c_19 (by decide)) (fun c_19 => ?_)
  refine x_aload_n hE dX12_pass_22 rfl 2 rfl ?_
  refine h_getr hE hM rfl inZX12 0 (by decide) q1394 rfl dX12_pass_23 ?_
  refine x_sipush (v := 9938) hE dX12_pass_26 (by decide) ?_
  refine x_bipush (v := 8) hE dX12_pass_29 (by decide) ?_
  refine x_aload_n hE dX12_pass_31 rfl 2 rfl ?_
  refine h_getr hE hM rfl inZX12 0 (by decide) q1394 rfl dX12_pass_32 ?_
  refine x_iconst (v := 2) hE dX12_pass_35 (by decide) ?_
  refine h_ialdL (iN := 2) hE hr0 (by decide) (by decide) (by omega) dX12_pass_36 ?_
  refine x_norm (y := nI h) ((hk 2 (by omega)).trans h02) ?_
  refine x_imul hE dX12_pass_37 ?_
  refine x_norm (y := nI (8 * h)) (pk_mul (8) (h)) ?_
  refine x_iadd hE dX12_pass_38 ?_
  refine x_norm (y := nI (9938 + (8 * h))) (nI_add (9938) ((8 * h))) ?_
  refine x_iload_n hE dX12_pass_39 rfl 0 rfl ?_
  refine x_iadd hE dX12_pass_40 ?_
  refine x_norm (y := nI ((9938 + (8 * h)) + 4)) (nI_add ((9938 + (8 * h))) (4)) ?_
  refine x_iload_n hE dX12_pass_41 rfl 0 rfl ?_
  refine x_aload_n hE dX12_pass_42 rfl 2 rfl ?_
  refine h_getr hE hM rfl inZX12 0 (by decide) q1394 rfl dX12_pass_43 ?_
  refine x_iconst (v := 1) hE dX12_pass_46 (by decide) ?_
  refine h_ialdL (iN := 1) hE hr0 (by decide) (by decide) (by omega) dX12_pass_47 ?_
  refine x_norm (y := 0) ((hk 1 (by omega)).trans h01) ?_
  refine x_icmp_ge (tgt := 60) hE dX12_pass_48 (by decide) (fun c_48 => ?_) (fun c_48 => absurd (by decide) c_48)
  refine x_iconst (v := -1) hE dX12_pass_60 (by decide) ?_
  refine h_iastL (iN := ((9938 + (8 * h)) + 4)) hE hr0 (nI_clamp (by omega)) (nI_pos (by omega)) (by omega) dX12_pass_61 ?_
  refine x_rho (fun ρ_61 hρ_61 => ?_)
  have hk : ∀ j, j < 186 → ρ_61 (r 0) j = ρ (r 0) j := fun j hj => Eq.trans (by rw [hρ_61, va_up_self, pk_un (by omega)]) (hk j hj)
  refine x_iinc (v := 5) (lv' := [(2, .int 5), (1, .int 0), (0, .ref m)]) hE dX12_pass_62 0 rfl (by decide) (by decide) rfl ?_
  refine x_goto (tgt := 16) hE dX12_pass_65 (by decide) ?_
  refine x_iload_n hE dX12_pass_16 rfl 0 rfl ?_
  refine x_bipush (v := 8) hE dX12_pass_17 (by decide) ?_
  refine x_icmp_ge (tgt := 68) hE dX12_pass_19 (by decide) (fun c_19 => absurd c_19 (by decide)) (fun c_19 => ?_)
  refine x_aload_n hE dX12_pass_22 rfl 2 rfl ?_
  refine h_getr hE hM rfl inZX12 0 (by decide) q1394 rfl dX12_pass_23 ?_
  refine x_sipush (v := 9938) hE dX12_pass_26 (by decide) ?_
  refine x_bipush (v := 8) hE dX12_pass_29 (by decide) ?_
  refine x_aload_n hE dX12_pass_31 rfl 2 rfl ?_
  refine h_getr hE hM rfl inZX12 0 (by decide) q1394 rfl dX12_pass_32 ?_
  refine x_iconst (v := 2) hE dX12_pass_35 (by decide) ?_
  refine h_ialdL (iN := 2) hE hr0 (by decide) (by decide) (by omega) dX12_pass_36 ?_
  refine x_norm (y := nI h) ((hk 2 (by omega)).trans h02) ?_
  refine x_imul hE dX12_pass_37 ?_
  refine x_norm (y := nI (8 * h)) (pk_mul (8) (h)) ?_
  refine x_iadd hE dX12_pass_38 ?_
  refine x_norm (y := nI (9938 + (8 * h))) (nI_add (9938) ((8 * h))) ?_
  refine x_iload_n hE dX12_pass_39 rfl 0 rfl ?_
  refine x_iadd hE dX12_pass_40 ?_
  refine x_norm (y := nI ((9938 + (8 * h)) + 5)) (nI_add ((9938 + (8 * h))) (5)) ?_
  refine x_iload_n hE dX12_pass_41 rfl 0 rfl ?_
  refine x_aload_n hE dX12_pass_42 rfl 2 rfl ?_
  refine h_getr hE hM rfl inZX12 0 (by decide) q1394 rfl dX12_pass_43 ?_
  refine x_iconst (v := 1) hE dX12_pass_46 (by decide) ?_
  refine h_ialdL (iN := 1) hE hr0 (by decide) (by decide) (by omega) dX12_pass_47 ?_
  refine x_norm (y := 0) ((hk 1 (by omega)).trans h01) ?_
  refine x_icmp_ge (tgt := 60) hE dX12_pass_48 (by decide) (fun c_48 => ?_) (fun c_48 => absurd (by decide) c_48)
  refine x_iconst (v := -1) hE dX12_pass_60 (by decide) ?_
  refine h_iastL (iN := ((9938 + (8 * h)) + 5)) hE hr0 (nI_clamp (by omega)) (nI_pos (by omega)) (by omega) dX12_pass_61 ?_
  refine x_rho (fun ρ_61 hρ_61 => ?_)
  have hk : ∀ j, j < 186 → ρ_61 (r 0) j = ρ (r 0) j := fun j hj => Eq.trans (by rw [hρ_61, va_up_self, pk_un (by omega)]) (hk j hj)
  refine x_iinc (v := 6) (lv' := [(2, .int 6), (1, .int 0), (0, .ref m)]) hE dX12_pass_62 0 rfl (by decide) (by decide) rfl ?_
  refine x_goto (tgt := 16) hE dX12_pass_65 (by decide) ?_
  refine x_iload_n hE dX12_pass_16 rfl 0 rfl ?_
  refine x_bipush (v := 8) hE dX12_pass_17 (by decide) ?_
  refine x_icmp_ge (tgt := 68) hE dX12_pass_19 (by decide) (fun c_19 => absurd c_19 (by decide)) (fun c_19 => ?_)
  refine x_aload_n hE dX12_pass_22 rfl 2 rfl ?_
  refine h_getr hE hM rfl inZX12 0 (by decide) q1394 rfl dX12_pass_23 ?_
  refine x_sipush (v := 9938) hE dX12_pass_26 (by decide) ?_
  refine x_bipush (v := 8) hE dX12_pass_29 (by decide) ?_
  refine x_aload_n hE dX12_pass_31 rfl 2 rfl ?_
  refine h_getr hE hM rfl inZX12 0 (by decide) q1394 rfl dX12_pass_32 ?_
  refine x_iconst (v := 2) hE dX12_pass_35 (by decide) ?_
  refine h_ialdL (iN := 2) hE hr0 (by decide) (by decide) (by omega) dX12_pass_36 ?_
  refine x_norm (y := nI h) ((hk 2 (by omega)).trans h02) ?_
  refine x_imul hE dX12_pass_37 ?_
  refine x_norm (y := nI (8 * h)) (pk_mul (8) (h)) ?_
  refine x_iadd hE dX12_pass_38 ?_
  refine x_norm (y := nI (9938 + (8 * h))) (nI_add (9938) ((8 * h))) ?_
  refine x_iload_n hE dX12_pass_39 rfl 0 rfl ?_
  refine x_iadd hE dX12_pass_40 ?_
  refine x_norm (y := nI ((9938 + (8 * h)) + 6)) (nI_add ((9938 + (8 * h))) (6)) ?_
  refine x_iload_n hE dX12_pass_41 rfl 0 rfl ?_
  refine x_aload_n hE dX12_pass_42 rfl 2 rfl ?_
  refine h_getr hE hM rfl inZX12 0 (by decide) q1394 rfl dX12_pass_43 ?_
  refine x_iconst (v := 1) hE dX12_pass_46 (by decide) ?_
  refine h_ialdL (iN := 1) hE hr0 (by decide) (by decide) (by omega) dX12_pass_47 ?_
  refine x_norm (y := 0) ((hk 1 (by omega)).trans h01) ?_
  refine x_icmp_ge (tgt := 60) hE dX12_pass_48 (by decide) (fun c_48 => ?_) (fun c_48 => absurd (by decide) c_48)
  refine x_iconst (v := -1) hE dX12_pass_60 (by decide) ?_
  refine h_iastL (iN := ((9938 + (8 * h)) + 6)) hE hr0 (nI_clamp (by omega)) (nI_pos (by omega)) (by omega) dX12_pass_61 ?_
  refine x_rho (fun ρ_61 hρ_61 => ?_)
  have hk : ∀ j, j < 186 → ρ_61 (r 0) j = ρ (r 0) j := fun j hj => Eq.trans (by rw [hρ_61, va_up_self, pk_un (by omega)]) (hk j hj)
  refine x_iinc (v := 7) (lv' := [(2, .int 7), (1, .int 0), (0, .ref m)]) hE dX12_pass_62 0 rfl (by decide) (by decide) rfl ?_
  refine x_goto (tgt := 16) hE dX12_pass_65 (by decide) ?_
  refine x_iload_n hE dX12_pass_16 rfl 0 rfl ?_
  refine x_bipush (v := 8) hE dX12_pass_17 (by decide) ?_
  refine x_icmp_ge (tgt := 68) hE dX12_pass_19 (by decide) (fun c_19 => absurd c_19 (by decide)) (fun c_19 => ?_)
  refine x_aload_n hE dX12_pass_22 rfl 2 rfl ?_
  refine h_getr hE hM rfl inZX12 0 (by decide) q1394 rfl dX12_pass_23 ?_
  refine x_sipush (v := 9938) hE dX12_pass_26 (by decide) ?_
  refine x_bipush (v := 8) hE dX12_pass_29 (by decide) ?_
  refine x_aload_n hE dX12_pass_31 rfl 2 rfl ?_
  refine h_getr hE hM rfl inZX12 0 (by decide) q1394 rfl dX12_pass_32 ?_
  refine x_iconst (v := 2) hE dX12_pass_35 (by decide) ?_
  refine h_ialdL (iN := 2) hE hr0 (by decide) (by decide) (by omega) dX12_pass_36 ?_
  refine x_norm (y := nI h) ((hk 2 (by omega)).trans h02) ?_
  refine x_imul hE dX12_pass_37 ?_
  refine x_norm (y := nI (8 * h)) (pk_mul (8) (h)) ?_
  refine x_iadd hE dX12_pass_38 ?_
  refine x_norm (y := nI (9938 + (8 * h))) (nI_add (9938) ((8 * h))) ?_
  refine x_iload_n hE dX12_pass_39 rfl 0 rfl ?_
  refine x_iadd hE dX12_pass_40 ?_
  refine x_norm (y := nI ((9938 + (8 * h)) + 7)) (nI_add ((9938 + (8 * h))) (7)) ?_
  refine x_iload_n hE dX12_pass_41 rfl 0 rfl ?_
  refine x_aload_n hE dX12_pass_42 rfl 2 rfl ?_
  refine h_getr hE hM rfl inZX12 0 (by decide) q1394 rfl dX12_pass_43 ?_
  refine x_iconst (v := 1) hE dX12_pass_46 (by decide) ?_
  refine h_ialdL (iN := 1) hE hr0 (by decide) (by decide) (by omega) dX12_pass_47 ?_
  refine x_norm (y := 0) ((hk 1 (by omega)).trans h01) ?_
  refine x_icmp_ge (tgt := 60) hE dX12_pass_48 (by decide) (fun c_48 => ?_) (fun c_48 => absurd (by decide) c_48)
  refine x_iconst (v := -1) hE dX12_pass_60 (by decide) ?_
  refine h_iastL (iN := ((9938 + (8 * h)) + 7)) hE hr0 (nI_clamp (by omega)) (nI_pos (by omega)) (by omega) dX12_pass_61 ?_
  refine x_rho (fun ρ_61 hρ_61 => ?_)
  have hk : ∀ j, j < 186 → ρ_61 (r 0) j = ρ (r 0) j := fun j hj => Eq.trans (by rw [hρ_61, va_up_self, pk_un (by omega)]) (hk j hj)
  refine x_iinc (v := 8) (lv' := [(2, .int 8), (1, .int 0), (0, .ref m)]) hE dX12_pass_62 0 rfl (by decide) (by decide) rfl ?_
  refine x_goto (tgt := 16) hE dX12_pass_65 (by decide) ?_
  refine x_iload_n hE dX12_pass_16 rfl 0 rfl ?_
  refine x_bipush (v := 8) hE dX12_pass_17 (by decide) ?_
  refine x_icmp_ge (tgt := 68) hE dX12_pass_19 (by decide) (fun c_19 => ?_) (fun c_19 => absurd (by decide) c_19)
  refine x_aload_n hE dX12_pass_68 rfl 2 rfl ?_
  refine h_getr hE hM rfl inZX12 0 (by decide) q1394 rfl dX12_pass_69 ?_
  refine x_iconst (v := 2) hE dX12_pass_72 (by decide) ?_
  refine x_dup2 hE dX12_pass_73 rfl rfl ?_
  refine h_ialdL (iN := 2) hE hr0 (by decide) (by decide) (by omega) dX12_pass_74 ?_
  refine x_norm (y := nI h) ((hk 2 (by omega)).trans h02) ?_
  refine x_iconst (v := 1) hE dX12_pass_75 (by decide) ?_
  refine x_iadd hE dX12_pass_76 ?_
  refine x_norm (y := nI (h + 1)) (nI_add (h) (1)) ?_
  refine h_iastL (iN := 2) hE hr0 (by decide) (by decide) (by omega) dX12_pass_77 ?_
  refine x_rho (fun ρ_77 hρ_77 => ?_)
  refine x_iload_n hE dX12_pass_78 rfl 1 rfl ?_
  exact hret _ _ _ _ _ _ _ _ (0) (Nat.le_of_ble_eq_true rfl) (Nat.le_of_ble_eq_true rfl) dX12_pass_79 (rfl) (⟨rfl, rfl, rfl, fun j hj h9 => by show ρ_77 (r 0) j = _; rw [hρ_77, va_up_self, pk_un h9]; exact hk j hj, by show ρ_77 (r 0) 2 = _; rw [hρ_77, va_up_self, pk_us]⟩)
set_option maxHeartbeats 4000000 in
set_option maxRecDepth 100000 in
theorem m_passStep (l : Launch) (D : va_G) (cy : Nat → ClassId) (L : List Nat) (σ : Nat → va_E) (φ : Nat → Nat → Nat → Int32) (ρ : Nat → Nat → Int32) {m : Nat} {r : Nat → Nat} (h s : Nat) (hm : zModel cy L σ m r) (h00 : ρ (r 0) 0 = 0) (h01 : ρ (r 0) 1 = 0) (h02 : ρ (r 0) 2 = nI h) (hs : ρ (r 0) 9 = nI s) (hlt : h < 999) (hlt2 : s < 30) : zMI l D cy yX12_passStep cX12_passStep 1 .int (zrm 3 0 0) [.ref m] L σ φ ρ (zsa L σ (fun r' φ' ρ' => r' = 0 ∧ (∀ j, j < 186 → j ≠ 2 → j ≠ 9 → ρ' (r 0) j = ρ (r 0) j) ∧ ρ' (r 0) 2 = nI (h + 1) ∧ ρ' (r 0) 9 = nI (s + 1))) := by
  refine zMI.mk (by decide) (Nat.le_of_ble_eq_true rfl) (fun E hE hret => ?_)
  show zW E 0 0 L σ φ ρ 0 [(0, .ref m)] []
  obtain ⟨hM, hr0, hr1, hr2, hr3, hr15, hr16, hr22, hr25, hr26, hr27, hr28, hr29, hr32, hr33, hr34, hr39, hr41, hr42, hr43, hr44, hr45, hr46, hr47, hr48, hr49, hr50, hr51, hr52, hne⟩ := id hm
  refine x_aload_n hE dX12_passStep_0 rfl 0 rfl ?_
  refine h_getr hE hM rfl inZX12 0 (by decide) q1394 rfl dX12_passStep_1 ?_
  refine x_iconst (v := 2) hE dX12_passStep_4 (by decide) ?_
  refine h_ialdL (iN := 2) hE hr0 (by decide) (by decide) (by omega) dX12_passStep_5 ?_
  refine x_norm (y := nI h) (h02) ?_
  refine x_sipush (v := 999) hE dX12_passStep_6 (by decide) ?_
  refine x_icmp_ne (tgt := 14) hE dX12_passStep_9 (by decide) (fun c_9 => ?_) (fun c_9 => absurd c_9 (fun h => absurd ((nI_eq (b := 999) (by omega) (by omega)).mp h) (by omega)))
  refine x_aload_n hE dX12_passStep_14 rfl 0 rfl ?_
  refine c_vs hE (r_V (st := []) hE (m_keep l D cy L σ φ ρ s hm hs hlt2) q1765 q1767 q72 q124 q1768 hM rfl ⟨by decide, by decide, pn_X12_keep⟩ ⟨Nat.le_of_ble_eq_true rfl, Nat.le_of_ble_eq_true rfl⟩ ⟨Nat.le_of_ble_eq_true rfl, Nat.le_of_ble_eq_true rfl⟩ rfl (Nat.le_of_ble_eq_true rfl) dX12_passStep_15) (fun φ1 ρ1 hc => ?_)
  refine x_widen (k' := 0) (n' := 0) (Nat.le_of_ble_eq_true rfl) (Nat.le_of_ble_eq_true rfl) ?_
  obtain ⟨hc1, hc2, hc3⟩ := hc
  subst hc1
  refine x_aload_n hE dX12_passStep_18 rfl 0 rfl ?_
  refine c_is hE (r_V (st := []) hE (m_pass l D cy L σ φ1 ρ1 h hm ((hc2 0 (by omega) (by omega)).trans h00) ((hc2 1 (by omega) (by omega)).trans h01) ((hc2 2 (by omega) (by omega)).trans h02) hlt) q1769 q1771 q73 q124 q1772 hM rfl ⟨by decide, by decide, pn_X12_pass⟩ ⟨Nat.le_of_ble_eq_true rfl, Nat.le_of_ble_eq_true rfl⟩ ⟨Nat.le_of_ble_eq_true rfl, Nat.le_of_ble_eq_true rfl⟩ rfl (Nat.le_of_ble_eq_true rfl) dX12_passStep_19) (fun rp φ2 ρ2 hp => ?_)
  refine x_widen (k' := 0) (n' := 0) (Nat.le_of_ble_eq_true rfl) (Nat.le_of_ble_eq_true rfl) ?_
  obtain ⟨hp1, hp2, hp3⟩ := hp
  exact hret _ _ _ _ _ _ _ _ (rp) (Nat.le_of_ble_eq_true rfl) (Nat.le_of_ble_eq_true rfl) dX12_passStep_22 (rfl) (⟨rfl, rfl, hp1, fun j h1 h2 h3 => (hp2 j h1 h2).trans (hc2 j h1 h3), hp3, (hp2 9 (by omega) (by omega)).trans hc3⟩)
-- hour(n) of a new reference
set_option maxHeartbeats 4000000 in
set_option maxRecDepth 100000 in
theorem m_hour (l : Launch) (D : va_G) (cy : Nat → ClassId) (L : List Nat) (σ : Nat → va_E) (φ : Nat → Nat → Nat → Int32) (ρ : Nat → Nat → Int32) {m : Nat} {r : Nat → Nat} (n : Int32) (hm : zModel cy L σ m r) (hm0 : zMo0 φ ρ m r) : zMI l D cy yX12_hour cX12_hour 4 .int (zrm 5 0 0) [.ref m, .int n] L σ φ ρ (fun r _ => r = if 1 ≤ n ∧ n ≤ 30 then 0 else -1) := by
  refine zMI.mk (by decide) (Nat.le_of_ble_eq_true rfl) (fun E hE hret => ?_)
  show zW E 0 0 L σ φ ρ 0 [(0, .ref m), (1, .int n)] []
  obtain ⟨hM, hr0, hr1, hr2, hr3, hr15, hr16, hr22, hr25, hr26, hr27, hr28, hr29, hr32, hr33, hr34, hr39, hr41, hr42, hr43, hr44, hr45, hr46, hr47, hr48, hr49, hr50, hr51, hr52, hne⟩ := id hm
  obtain ⟨hp, h0, h1⟩ := id hm0
  have h00 : ρ (r 0) 0 = 0 := (h0 0 (by omega)).trans (by decide)
  have h01 : ρ (r 0) 1 = 0 := (h0 1 (by omega)).trans (by decide)
  have loop : ∀ (q : Nat), q ≤ 30 → (if 1 ≤ nI q ∧ nI q ≤ 30 then (0 : Int32) else -1) = 0 → n = nI q → ∀ (f i : Nat) (φ' : Nat → Nat → Nat → Int32) (ρ' : Nat → Nat → Int32), i ≤ q → q - i < f → ρ' (r 0) 0 = 0 → ρ' (r 0) 1 = 0 → ρ' (r 0) 2 = nI i → ρ' (r 0) 9 = nI i → zW E 0 0 L σ φ' ρ' 30 [(3, .int (nI i)), (2, .int 0), (1, .int (nI q)), (0, .ref m)] [] := by
    intro q hq hsq hnq f
    induction f with
    | zero => intro i φ' ρ' h1 h2; omega
    | succ f ih =>
      intro i φ' ρ' hi hf g0 g1 g2 g9
      rcases Nat.lt_or_ge i q with hlt | hge
      · refine x_iload_n hE dX12_hour_30 rfl 0 rfl ?_
        refine x_iload_n hE dX12_hour_31 rfl 2 rfl ?_
        refine x_icmp_ge (tgt := 48) hE dX12_hour_32 (by decide) (fun c_32 => absurd c_32 (fun h => absurd ((nI_leI (by omega) (by omega)).mp h) (by omega))) (fun c_32 => ?_)
        refine x_iload_n hE dX12_hour_35 rfl 1 rfl ?_
        refine x_aload_n hE dX12_hour_36 rfl 3 rfl ?_
        refine c_is hE (r_V (st := [.int 0]) hE (m_passStep l D cy L σ φ' ρ' i i hm g0 g1 g2 g9 (by omega) (by omega)) q1761 q1763 q71 q124 q1764 hM rfl ⟨by decide, by decide, pn_X12_passStep⟩ ⟨Nat.le_of_ble_eq_true rfl, Nat.le_of_ble_eq_true rfl⟩ ⟨Nat.le_of_ble_eq_true rfl, Nat.le_of_ble_eq_true rfl⟩ rfl (Nat.le_of_ble_eq_true rfl) dX12_hour_37) (fun rp φ1 ρ1 hc => ?_)
        refine x_widen (k' := 0) (n' := 0) (Nat.le_of_ble_eq_true rfl) (Nat.le_of_ble_eq_true rfl) ?_
        obtain ⟨hc1, hc2, hc3, hc4⟩ := hc
        refine x_norm (y := 0) (hc1) ?_
        refine x_iadd hE dX12_hour_40 ?_
        refine x_norm (y := 0) (by decide) ?_
        refine x_istore_n (lv' := [(2, .int 0), (3, .int (nI i)), (1, .int (nI q)), (0, .ref m)]) hE dX12_hour_41 rfl (by decide) rfl ?_
        refine x_iinc (v := nI (i + 1)) (lv' := [(3, .int (nI (i + 1))), (2, .int 0), (1, .int (nI q)), (0, .ref m)]) hE dX12_hour_42 1 rfl (nI_1 i) (by decide) rfl ?_
        refine x_goto (tgt := 30) hE dX12_hour_45 (by decide) ?_
        refine x_sub (lv' := [(3, .int (nI (i + 1))), (2, .int 0), (1, .int (nI q)), (0, .ref m)]) (by simp) ?_
        exact ih (i + 1) _ _ (by omega) (by omega) ((hc2 0 (by omega) (by omega) (by omega)).trans g0) ((hc2 1 (by omega) (by omega) (by omega)).trans g1) hc3 hc4
      · refine x_iload_n hE dX12_hour_30 rfl 0 rfl ?_
        refine x_iload_n hE dX12_hour_31 rfl 2 rfl ?_
        refine x_icmp_ge (tgt := 48) hE dX12_hour_32 (by decide) (fun c_32 => ?_) (fun c_32 => absurd ((nI_leI (by omega) (by omega)).mpr (by omega)) c_32)
        refine x_iload_n hE dX12_hour_48 rfl 1 rfl ?_
        exact hret _ _ _ _ _ _ _ _ (0) (Nat.le_of_ble_eq_true rfl) (Nat.le_of_ble_eq_true rfl) dX12_hour_49 (rfl) (by rw [hnq]; exact hsq.symm)
  refine x_iload_n hE dX12_hour_0 rfl 1 rfl ?_
  refine x_iconst (v := 1) hE dX12_hour_1 (by decide) ?_
  refine x_bipush (v := 30) hE dX12_hour_2 (by decide) ?_
  refine c_ip hE (r_S (st := []) hE (m_isIn l D cy L σ φ ρ (n) (1) (30)) q1558 q1559 q124 q1560 ⟨by decide, by decide, pn_X12_isIn⟩ ⟨Nat.le_of_ble_eq_true rfl, Nat.le_of_ble_eq_true rfl⟩ ⟨Nat.le_of_ble_eq_true rfl, Nat.le_of_ble_eq_true rfl⟩ rfl (Nat.le_of_ble_eq_true rfl) dX12_hour_4) (fun r4 h4 => ?_)
  refine x_widen (k' := 0) (n' := 0) (Nat.le_of_ble_eq_true rfl) (Nat.le_of_ble_eq_true rfl) ?_
  refine x_if_eq (tgt := 24) hE dX12_hour_7 (by decide) (fun c_7 => ?_) (fun c_7 => ?_)
  · refine x_iconst (v := -1) hE dX12_hour_24 (by decide) ?_
    exact hret _ _ _ _ _ _ _ _ (-1) (Nat.le_of_ble_eq_true rfl) (Nat.le_of_ble_eq_true rfl) dX12_hour_25 (rfl) (by grind [zb])
  · have hn1 : 1 ≤ n ∧ n ≤ 30 := by grind [zb]
    obtain ⟨q, hq1, hq2, hnq⟩ := z_nI (a := 1) (b := 30) hn1 (by omega) (by omega)
    rw [hnq]
    refine x_aload_n hE dX12_hour_10 rfl 0 rfl ?_
    refine h_getr hE hM rfl inZX12 0 (by decide) q1394 rfl dX12_hour_11 ?_
    refine x_iconst (v := 2) hE dX12_hour_14 (by decide) ?_
    refine h_ialdL (iN := 2) hE hr0 (by decide) (by decide) (by omega) dX12_hour_15 ?_
    refine x_norm (y := 0) ((h0 2 (by omega)).trans (by decide)) ?_
    refine x_iload_n hE dX12_hour_16 rfl 1 rfl ?_
    refine x_iadd hE dX12_hour_17 ?_
    refine x_norm (y := nI q) (Int32.zero_add _) ?_
    refine x_sipush (v := 999) hE dX12_hour_18 (by decide) ?_
    refine x_icmp_le (tgt := 26) hE dX12_hour_21 (by decide) (fun c_21 => ?_) (fun c_21 => absurd ((nI_leI (b := 999) (by omega) (by omega)).mpr (by omega)) c_21)
    refine x_iconst (v := 0) hE dX12_hour_26 (by decide) ?_
    refine x_istore_n (lv' := [(2, .int 0), (0, .ref m), (1, .int (nI q))]) hE dX12_hour_27 rfl (by decide) rfl ?_
    refine x_iconst (v := 0) hE dX12_hour_28 (by decide) ?_
    refine x_istore_n (lv' := [(3, .int 0), (2, .int 0), (0, .ref m), (1, .int (nI q))]) hE dX12_hour_29 rfl (by decide) rfl ?_
    refine x_sub (lv' := [(3, .int (nI 0)), (2, .int 0), (1, .int (nI q)), (0, .ref m)]) (by simp [nI_0]) ?_
    exact loop q hq2 (by rw [← hnq]; exact if_pos hn1) hnq (q + 1) 0 φ ρ (by omega) (by omega) h00 h01 ((h0 2 (by omega)).trans (by decide)) ((h0 9 (by omega)).trans (by decide))
