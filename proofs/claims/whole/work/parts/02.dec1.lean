theorem dX0_init_0 : decode cX0_init 0 = .ok (.aload_n 0, 1) := by decide +kernel
theorem dX0_init_1 : decode cX0_init 1 = .ok (.invokespecial 3, 3) := by decide +kernel
theorem dX0_init_4 : decode cX0_init 4 = .ok (.aload_n 0, 1) := by decide +kernel
theorem dX0_init_5 : decode cX0_init 5 = .ok (.bipush 20, 2) := by decide +kernel
theorem dX0_init_7 : decode cX0_init 7 = .ok (.newarray .int, 2) := by decide +kernel
theorem dX0_init_9 : decode cX0_init 9 = .ok (.putfield 11, 3) := by decide +kernel
theorem dX0_init_12 : decode cX0_init 12 = .ok (.return_, 1) := by decide +kernel
theorem dX0_forget_0 : decode cX0_forget 0 = .ok (.aload_n 0, 1) := by decide +kernel
theorem dX0_forget_1 : decode cX0_forget 1 = .ok (.iconst 0, 1) := by decide +kernel
theorem dX0_forget_2 : decode cX0_forget 2 = .ok (.putfield 15, 3) := by decide +kernel
theorem dX0_forget_5 : decode cX0_forget 5 = .ok (.aload_n 0, 1) := by decide +kernel
theorem dX0_forget_6 : decode cX0_forget 6 = .ok (.iload_n 1, 1) := by decide +kernel
theorem dX0_forget_7 : decode cX0_forget 7 = .ok (.putfield 19, 3) := by decide +kernel
theorem dX0_forget_10 : decode cX0_forget 10 = .ok (.aload_n 0, 1) := by decide +kernel
theorem dX0_forget_11 : decode cX0_forget 11 = .ok (.iload_n 2, 1) := by decide +kernel
theorem dX0_forget_12 : decode cX0_forget 12 = .ok (.putfield 22, 3) := by decide +kernel
theorem dX0_forget_15 : decode cX0_forget 15 = .ok (.return_, 1) := by decide +kernel
theorem dX0_done_0 : decode cX0_done 0 = .ok (.aload_n 0, 1) := by decide +kernel
theorem dX0_done_1 : decode cX0_done 1 = .ok (.iload_n 1, 1) := by decide +kernel
theorem dX0_done_2 : decode cX0_done 2 = .ok (.putfield 25, 3) := by decide +kernel
theorem dX0_done_5 : decode cX0_done 5 = .ok (.aload_n 0, 1) := by decide +kernel
theorem dX0_done_6 : decode cX0_done 6 = .ok (.iload_n 2, 1) := by decide +kernel
theorem dX0_done_7 : decode cX0_done 7 = .ok (.iload_n 3, 1) := by decide +kernel
theorem dX0_done_8 : decode cX0_done 8 = .ok (.iconst 0, 1) := by decide +kernel
theorem dX0_done_9 : decode cX0_done 9 = .ok (.invokevirtual 28, 3) := by decide +kernel
theorem dX0_done_12 : decode cX0_done 12 = .ok (.ireturn, 1) := by decide +kernel
theorem dX0_own_0 : decode cX0_own 0 = .ok (.aload_n 0, 1) := by decide +kernel
theorem dX0_own_1 : decode cX0_own 1 = .ok (.aload_n 0, 1) := by decide +kernel
theorem dX0_own_2 : decode cX0_own 2 = .ok (.getfield 25, 3) := by decide +kernel
theorem dX0_own_5 : decode cX0_own 5 = .ok (.iload_n 1, 1) := by decide +kernel
theorem dX0_own_6 : decode cX0_own 6 = .ok (.iload_n 2, 1) := by decide +kernel
theorem dX0_own_7 : decode cX0_own 7 = .ok (.iload_n 3, 1) := by decide +kernel
theorem dX0_own_8 : decode cX0_own 8 = .ok (.invokevirtual 32, 3) := by decide +kernel
theorem dX0_own_11 : decode cX0_own 11 = .ok (.ireturn, 1) := by decide +kernel
theorem dX0_above_0 : decode cX0_above 0 = .ok (.aload_n 0, 1) := by decide +kernel
theorem dX0_above_1 : decode cX0_above 1 = .ok (.getstatic 36, 3) := by decide +kernel
theorem dX0_above_4 : decode cX0_above 4 = .ok (.iload_n 1, 1) := by decide +kernel
theorem dX0_above_5 : decode cX0_above 5 = .ok (.iaload, 1) := by decide +kernel
theorem dX0_above_6 : decode cX0_above 6 = .ok (.iload_n 2, 1) := by decide +kernel
theorem dX0_above_7 : decode cX0_above 7 = .ok (.iload_n 3, 1) := by decide +kernel
theorem dX0_above_8 : decode cX0_above 8 = .ok (.iload 4, 2) := by decide +kernel
theorem dX0_above_10 : decode cX0_above 10 = .ok (.invokevirtual 32, 3) := by decide +kernel
theorem dX0_above_13 : decode cX0_above 13 = .ok (.ireturn, 1) := by decide +kernel
theorem dX0_from_0 : decode cX0_from 0 = .ok (.iload_n 1, 1) := by decide +kernel
theorem dX0_from_1 : decode cX0_from 1 = .ok (.istore 5, 2) := by decide +kernel
theorem dX0_from_3 : decode cX0_from 3 = .ok (.iconst 0, 1) := by decide +kernel
theorem dX0_from_4 : decode cX0_from 4 = .ok (.istore 6, 2) := by decide +kernel
theorem dX0_from_6 : decode cX0_from 6 = .ok (.iload 6, 2) := by decide +kernel
theorem dX0_from_8 : decode cX0_from 8 = .ok (.bipush 6, 2) := by decide +kernel
theorem dX0_from_10 : decode cX0_from 10 = .ok (.if_icmp .ge 35, 3) := by decide +kernel
theorem dX0_from_13 : decode cX0_from 13 = .ok (.iload 5, 2) := by decide +kernel
theorem dX0_from_15 : decode cX0_from 15 = .ok (.ifCond .le 30, 3) := by decide +kernel
theorem dX0_from_18 : decode cX0_from 18 = .ok (.getstatic 39, 3) := by decide +kernel
theorem dX0_from_21 : decode cX0_from 21 = .ok (.iload 5, 2) := by decide +kernel
theorem dX0_from_23 : decode cX0_from 23 = .ok (.iconst 3, 1) := by decide +kernel
theorem dX0_from_24 : decode cX0_from 24 = .ok (.imul, 1) := by decide +kernel
theorem dX0_from_25 : decode cX0_from 25 = .ok (.iload_n 2, 1) := by decide +kernel
theorem dX0_from_26 : decode cX0_from 26 = .ok (.iadd, 1) := by decide +kernel
theorem dX0_from_27 : decode cX0_from 27 = .ok (.iaload, 1) := by decide +kernel
theorem dX0_from_28 : decode cX0_from 28 = .ok (.ifCond .ne 17, 3) := by decide +kernel
theorem dX0_from_31 : decode cX0_from 31 = .ok (.getstatic 36, 3) := by decide +kernel
theorem dX0_from_34 : decode cX0_from 34 = .ok (.iload 5, 2) := by decide +kernel
theorem dX0_from_36 : decode cX0_from 36 = .ok (.iaload, 1) := by decide +kernel
theorem dX0_from_37 : decode cX0_from 37 = .ok (.istore 5, 2) := by decide +kernel
theorem dX0_from_39 : decode cX0_from 39 = .ok (.iinc 6 1, 3) := by decide +kernel
theorem dX0_from_42 : decode cX0_from 42 = .ok (.goto (-36), 3) := by decide +kernel
theorem dX0_from_45 : decode cX0_from 45 = .ok (.iload 5, 2) := by decide +kernel
theorem dX0_from_47 : decode cX0_from 47 = .ok (.ifCond .lt 10, 3) := by decide +kernel
theorem dX0_from_50 : decode cX0_from 50 = .ok (.iload 4, 2) := by decide +kernel
theorem dX0_from_52 : decode cX0_from 52 = .ok (.bipush 40, 2) := by decide +kernel
theorem dX0_from_54 : decode cX0_from 54 = .ok (.if_icmp .le 5, 3) := by decide +kernel
theorem dX0_from_57 : decode cX0_from 57 = .ok (.iconst 0, 1) := by decide +kernel
theorem dX0_from_58 : decode cX0_from 58 = .ok (.ireturn, 1) := by decide +kernel
theorem dX0_from_59 : decode cX0_from 59 = .ok (.getstatic 39, 3) := by decide +kernel
theorem dX0_from_62 : decode cX0_from 62 = .ok (.iload 5, 2) := by decide +kernel
theorem dX0_from_64 : decode cX0_from 64 = .ok (.iconst 3, 1) := by decide +kernel
theorem dX0_from_65 : decode cX0_from 65 = .ok (.imul, 1) := by decide +kernel
theorem dX0_from_66 : decode cX0_from 66 = .ok (.iload_n 2, 1) := by decide +kernel
theorem dX0_from_67 : decode cX0_from 67 = .ok (.iadd, 1) := by decide +kernel
theorem dX0_from_68 : decode cX0_from 68 = .ok (.iaload, 1) := by decide +kernel
theorem dX0_from_69 : decode cX0_from 69 = .ok (.istore 6, 2) := by decide +kernel
theorem dX0_from_71 : decode cX0_from 71 = .ok (.aload_n 0, 1) := by decide +kernel
theorem dX0_from_72 : decode cX0_from 72 = .ok (.getfield 15, 3) := by decide +kernel
theorem dX0_from_75 : decode cX0_from 75 = .ok (.bipush 20, 2) := by decide +kernel
theorem dX0_from_77 : decode cX0_from 77 = .ok (.if_icmp .ge 14, 3) := by decide +kernel
theorem dX0_from_80 : decode cX0_from 80 = .ok (.aload_n 0, 1) := by decide +kernel
theorem dX0_from_81 : decode cX0_from 81 = .ok (.getfield 11, 3) := by decide +kernel
theorem dX0_from_84 : decode cX0_from 84 = .ok (.aload_n 0, 1) := by decide +kernel
theorem dX0_from_85 : decode cX0_from 85 = .ok (.getfield 15, 3) := by decide +kernel
theorem dX0_from_88 : decode cX0_from 88 = .ok (.iload 6, 2) := by decide +kernel
theorem dX0_from_90 : decode cX0_from 90 = .ok (.iastore, 1) := by decide +kernel
theorem dX0_from_91 : decode cX0_from 91 = .ok (.aload_n 0, 1) := by decide +kernel
theorem dX0_from_92 : decode cX0_from 92 = .ok (.dup, 1) := by decide +kernel
theorem dX0_from_93 : decode cX0_from 93 = .ok (.getfield 15, 3) := by decide +kernel
theorem dX0_from_96 : decode cX0_from 96 = .ok (.iconst 1, 1) := by decide +kernel
theorem dX0_from_97 : decode cX0_from 97 = .ok (.iadd, 1) := by decide +kernel
theorem dX0_from_98 : decode cX0_from 98 = .ok (.putfield 15, 3) := by decide +kernel
theorem dX0_from_101 : decode cX0_from 101 = .ok (.aload_n 0, 1) := by decide +kernel
theorem dX0_from_102 : decode cX0_from 102 = .ok (.iload 6, 2) := by decide +kernel
theorem dX0_from_104 : decode cX0_from 104 = .ok (.iload_n 3, 1) := by decide +kernel
theorem dX0_from_105 : decode cX0_from 105 = .ok (.iload 4, 2) := by decide +kernel
theorem dX0_from_107 : decode cX0_from 107 = .ok (.iconst 1, 1) := by decide +kernel
theorem dX0_from_108 : decode cX0_from 108 = .ok (.iadd, 1) := by decide +kernel
theorem dX0_from_109 : decode cX0_from 109 = .ok (.invokevirtual 42, 3) := by decide +kernel
theorem dX0_from_112 : decode cX0_from 112 = .ok (.ireturn, 1) := by decide +kernel
theorem dX0_run_0 : decode cX0_run 0 = .ok (.iload_n 1, 1) := by decide +kernel
theorem dX0_run_1 : decode cX0_run 1 = .ok (.lookupswitch 241 #[(10, 99), (11, 106), (12, 119), (20, 129), (30, 140), (31, 151), (40, 168), (50, 178), (51, 192), (60, 210), (61, 224)], 99) := by decide +kernel
theorem dX0_run_100 : decode cX0_run 100 = .ok (.iload_n 2, 1) := by decide +kernel
theorem dX0_run_101 : decode cX0_run 101 = .ok (.aload_n 0, 1) := by decide +kernel
theorem dX0_run_102 : decode cX0_run 102 = .ok (.getfield 19, 3) := by decide +kernel
theorem dX0_run_105 : decode cX0_run 105 = .ok (.iadd, 1) := by decide +kernel
theorem dX0_run_106 : decode cX0_run 106 = .ok (.ireturn, 1) := by decide +kernel
theorem dX0_run_107 : decode cX0_run 107 = .ok (.aload_n 0, 1) := by decide +kernel
theorem dX0_run_108 : decode cX0_run 108 = .ok (.iconst 0, 1) := by decide +kernel
theorem dX0_run_109 : decode cX0_run 109 = .ok (.iload_n 2, 1) := by decide +kernel
theorem dX0_run_110 : decode cX0_run 110 = .ok (.iload_n 3, 1) := by decide +kernel
theorem dX0_run_111 : decode cX0_run 111 = .ok (.invokevirtual 28, 3) := by decide +kernel
theorem dX0_run_114 : decode cX0_run 114 = .ok (.aload_n 0, 1) := by decide +kernel
theorem dX0_run_115 : decode cX0_run 115 = .ok (.getfield 22, 3) := by decide +kernel
theorem dX0_run_118 : decode cX0_run 118 = .ok (.isub, 1) := by decide +kernel
theorem dX0_run_119 : decode cX0_run 119 = .ok (.ireturn, 1) := by decide +kernel
theorem dX0_run_120 : decode cX0_run 120 = .ok (.aload_n 0, 1) := by decide +kernel
theorem dX0_run_121 : decode cX0_run 121 = .ok (.iconst 1, 1) := by decide +kernel
theorem dX0_run_122 : decode cX0_run 122 = .ok (.iload_n 2, 1) := by decide +kernel
theorem dX0_run_123 : decode cX0_run 123 = .ok (.iload_n 3, 1) := by decide +kernel
theorem dX0_run_124 : decode cX0_run 124 = .ok (.invokevirtual 28, 3) := by decide +kernel
theorem dX0_run_127 : decode cX0_run 127 = .ok (.iconst 2, 1) := by decide +kernel
theorem dX0_run_128 : decode cX0_run 128 = .ok (.imul, 1) := by decide +kernel
theorem dX0_run_129 : decode cX0_run 129 = .ok (.ireturn, 1) := by decide +kernel
theorem dX0_run_130 : decode cX0_run 130 = .ok (.aload_n 0, 1) := by decide +kernel
theorem dX0_run_131 : decode cX0_run 131 = .ok (.iconst 1, 1) := by decide +kernel
theorem dX0_run_132 : decode cX0_run 132 = .ok (.iconst 1, 1) := by decide +kernel
theorem dX0_run_133 : decode cX0_run 133 = .ok (.iload_n 2, 1) := by decide +kernel
theorem dX0_run_134 : decode cX0_run 134 = .ok (.iload_n 3, 1) := by decide +kernel
theorem dX0_run_135 : decode cX0_run 135 = .ok (.invokevirtual 45, 3) := by decide +kernel
theorem dX0_run_138 : decode cX0_run 138 = .ok (.iconst 5, 1) := by decide +kernel
theorem dX0_run_139 : decode cX0_run 139 = .ok (.ixor, 1) := by decide +kernel
theorem dX0_run_140 : decode cX0_run 140 = .ok (.ireturn, 1) := by decide +kernel
theorem dX0_run_141 : decode cX0_run 141 = .ok (.aload_n 0, 1) := by decide +kernel
theorem dX0_run_142 : decode cX0_run 142 = .ok (.iconst 2, 1) := by decide +kernel
theorem dX0_run_143 : decode cX0_run 143 = .ok (.iconst 0, 1) := by decide +kernel
theorem dX0_run_144 : decode cX0_run 144 = .ok (.iload_n 2, 1) := by decide +kernel
theorem dX0_run_145 : decode cX0_run 145 = .ok (.iconst 3, 1) := by decide +kernel
theorem dX0_run_146 : decode cX0_run 146 = .ok (.imul, 1) := by decide +kernel
theorem dX0_run_147 : decode cX0_run 147 = .ok (.iload_n 3, 1) := by decide +kernel
theorem dX0_run_148 : decode cX0_run 148 = .ok (.invokevirtual 45, 3) := by decide +kernel
theorem dX0_run_151 : decode cX0_run 151 = .ok (.ireturn, 1) := by decide +kernel
theorem dX0_run_152 : decode cX0_run 152 = .ok (.aload_n 0, 1) := by decide +kernel
theorem dX0_run_153 : decode cX0_run 153 = .ok (.iconst 2, 1) := by decide +kernel
theorem dX0_run_154 : decode cX0_run 154 = .ok (.iconst 2, 1) := by decide +kernel
theorem dX0_run_155 : decode cX0_run 155 = .ok (.iload_n 2, 1) := by decide +kernel
theorem dX0_run_156 : decode cX0_run 156 = .ok (.iload_n 3, 1) := by decide +kernel
theorem dX0_run_157 : decode cX0_run 157 = .ok (.invokevirtual 45, 3) := by decide +kernel
theorem dX0_run_160 : decode cX0_run 160 = .ok (.aload_n 0, 1) := by decide +kernel
theorem dX0_run_161 : decode cX0_run 161 = .ok (.iconst 1, 1) := by decide +kernel
theorem dX0_run_162 : decode cX0_run 162 = .ok (.iconst 1, 1) := by decide +kernel
theorem dX0_run_163 : decode cX0_run 163 = .ok (.iload_n 3, 1) := by decide +kernel
theorem dX0_run_164 : decode cX0_run 164 = .ok (.invokevirtual 28, 3) := by decide +kernel
theorem dX0_run_167 : decode cX0_run 167 = .ok (.iadd, 1) := by decide +kernel
theorem dX0_run_168 : decode cX0_run 168 = .ok (.ireturn, 1) := by decide +kernel
theorem dX0_run_169 : decode cX0_run 169 = .ok (.aload_n 0, 1) := by decide +kernel
theorem dX0_run_170 : decode cX0_run 170 = .ok (.iconst 3, 1) := by decide +kernel
theorem dX0_run_171 : decode cX0_run 171 = .ok (.iconst 0, 1) := by decide +kernel
theorem dX0_run_172 : decode cX0_run 172 = .ok (.iload_n 2, 1) := by decide +kernel
theorem dX0_run_173 : decode cX0_run 173 = .ok (.iload_n 3, 1) := by decide +kernel
theorem dX0_run_174 : decode cX0_run 174 = .ok (.invokevirtual 45, 3) := by decide +kernel
theorem dX0_run_177 : decode cX0_run 177 = .ok (.ineg, 1) := by decide +kernel
theorem dX0_run_178 : decode cX0_run 178 = .ok (.ireturn, 1) := by decide +kernel
theorem dX0_run_179 : decode cX0_run 179 = .ok (.aload_n 0, 1) := by decide +kernel
theorem dX0_run_180 : decode cX0_run 180 = .ok (.iconst 4, 1) := by decide +kernel
theorem dX0_run_181 : decode cX0_run 181 = .ok (.iconst 2, 1) := by decide +kernel
theorem dX0_run_182 : decode cX0_run 182 = .ok (.iload_n 2, 1) := by decide +kernel
theorem dX0_run_183 : decode cX0_run 183 = .ok (.aload_n 0, 1) := by decide +kernel
theorem dX0_run_184 : decode cX0_run 184 = .ok (.getfield 19, 3) := by decide +kernel
theorem dX0_run_187 : decode cX0_run 187 = .ok (.isub, 1) := by decide +kernel
theorem dX0_run_188 : decode cX0_run 188 = .ok (.iload_n 3, 1) := by decide +kernel
theorem dX0_run_189 : decode cX0_run 189 = .ok (.invokevirtual 45, 3) := by decide +kernel
theorem dX0_run_192 : decode cX0_run 192 = .ok (.ireturn, 1) := by decide +kernel
theorem dX0_run_193 : decode cX0_run 193 = .ok (.aload_n 0, 1) := by decide +kernel
theorem dX0_run_194 : decode cX0_run 194 = .ok (.iconst 4, 1) := by decide +kernel
theorem dX0_run_195 : decode cX0_run 195 = .ok (.iconst 1, 1) := by decide +kernel
theorem dX0_run_196 : decode cX0_run 196 = .ok (.iload_n 2, 1) := by decide +kernel
theorem dX0_run_197 : decode cX0_run 197 = .ok (.iload_n 3, 1) := by decide +kernel
theorem dX0_run_198 : decode cX0_run 198 = .ok (.invokevirtual 45, 3) := by decide +kernel
theorem dX0_run_201 : decode cX0_run 201 = .ok (.aload_n 0, 1) := by decide +kernel
theorem dX0_run_202 : decode cX0_run 202 = .ok (.iconst 4, 1) := by decide +kernel
theorem dX0_run_203 : decode cX0_run 203 = .ok (.iconst 0, 1) := by decide +kernel
theorem dX0_run_204 : decode cX0_run 204 = .ok (.iconst 2, 1) := by decide +kernel
theorem dX0_run_205 : decode cX0_run 205 = .ok (.iload_n 3, 1) := by decide +kernel
theorem dX0_run_206 : decode cX0_run 206 = .ok (.invokevirtual 45, 3) := by decide +kernel
theorem dX0_run_209 : decode cX0_run 209 = .ok (.iadd, 1) := by decide +kernel
theorem dX0_run_210 : decode cX0_run 210 = .ok (.ireturn, 1) := by decide +kernel
theorem dX0_run_211 : decode cX0_run 211 = .ok (.aload_n 0, 1) := by decide +kernel
theorem dX0_run_212 : decode cX0_run 212 = .ok (.iconst 5, 1) := by decide +kernel
theorem dX0_run_213 : decode cX0_run 213 = .ok (.iconst 1, 1) := by decide +kernel
theorem dX0_run_214 : decode cX0_run 214 = .ok (.iload_n 2, 1) := by decide +kernel
theorem dX0_run_215 : decode cX0_run 215 = .ok (.aload_n 0, 1) := by decide +kernel
theorem dX0_run_216 : decode cX0_run 216 = .ok (.getfield 22, 3) := by decide +kernel
theorem dX0_run_219 : decode cX0_run 219 = .ok (.iadd, 1) := by decide +kernel
theorem dX0_run_220 : decode cX0_run 220 = .ok (.iload_n 3, 1) := by decide +kernel
theorem dX0_run_221 : decode cX0_run 221 = .ok (.invokevirtual 45, 3) := by decide +kernel
theorem dX0_run_224 : decode cX0_run 224 = .ok (.ireturn, 1) := by decide +kernel
theorem dX0_run_225 : decode cX0_run 225 = .ok (.aload_n 0, 1) := by decide +kernel
theorem dX0_run_226 : decode cX0_run 226 = .ok (.iconst 0, 1) := by decide +kernel
theorem dX0_run_227 : decode cX0_run 227 = .ok (.iload_n 2, 1) := by decide +kernel
theorem dX0_run_228 : decode cX0_run 228 = .ok (.iload_n 3, 1) := by decide +kernel
theorem dX0_run_229 : decode cX0_run 229 = .ok (.invokevirtual 28, 3) := by decide +kernel
theorem dX0_run_232 : decode cX0_run 232 = .ok (.aload_n 0, 1) := by decide +kernel
theorem dX0_run_233 : decode cX0_run 233 = .ok (.iconst 5, 1) := by decide +kernel
theorem dX0_run_234 : decode cX0_run 234 = .ok (.iconst 2, 1) := by decide +kernel
theorem dX0_run_235 : decode cX0_run 235 = .ok (.iload_n 2, 1) := by decide +kernel
theorem dX0_run_236 : decode cX0_run 236 = .ok (.iload_n 3, 1) := by decide +kernel
theorem dX0_run_237 : decode cX0_run 237 = .ok (.invokevirtual 45, 3) := by decide +kernel
theorem dX0_run_240 : decode cX0_run 240 = .ok (.isub, 1) := by decide +kernel
theorem dX0_run_241 : decode cX0_run 241 = .ok (.ireturn, 1) := by decide +kernel
theorem dX0_run_242 : decode cX0_run 242 = .ok (.iconst 0, 1) := by decide +kernel
theorem dX0_run_243 : decode cX0_run 243 = .ok (.ireturn, 1) := by decide +kernel
theorem dX1_init_0 : decode cX1_init 0 = .ok (.aload_n 0, 1) := by decide +kernel
theorem dX1_init_1 : decode cX1_init 1 = .ok (.invokespecial 3, 3) := by decide +kernel
theorem dX1_init_4 : decode cX1_init 4 = .ok (.aload_n 0, 1) := by decide +kernel
theorem dX1_init_5 : decode cX1_init 5 = .ok (.iconst 4, 1) := by decide +kernel
theorem dX1_init_6 : decode cX1_init 6 = .ok (.newarray .int, 2) := by decide +kernel
theorem dX1_init_8 : decode cX1_init 8 = .ok (.putfield 9, 3) := by decide +kernel
theorem dX1_init_11 : decode cX1_init 11 = .ok (.aload_n 0, 1) := by decide +kernel
theorem dX1_init_12 : decode cX1_init 12 = .ok (.bipush 12, 2) := by decide +kernel
theorem dX1_init_14 : decode cX1_init 14 = .ok (.newarray .int, 2) := by decide +kernel
theorem dX1_init_16 : decode cX1_init 16 = .ok (.putfield 15, 3) := by decide +kernel
theorem dX1_init_19 : decode cX1_init 19 = .ok (.aload_n 0, 1) := by decide +kernel
theorem dX1_init_20 : decode cX1_init 20 = .ok (.iconst 4, 1) := by decide +kernel
theorem dX1_init_21 : decode cX1_init 21 = .ok (.newarray .int, 2) := by decide +kernel
theorem dX1_init_23 : decode cX1_init 23 = .ok (.putfield 18, 3) := by decide +kernel
theorem dX1_init_26 : decode cX1_init 26 = .ok (.aload_n 0, 1) := by decide +kernel
theorem dX1_init_27 : decode cX1_init 27 = .ok (.iconst 4, 1) := by decide +kernel
theorem dX1_init_28 : decode cX1_init 28 = .ok (.newarray .int, 2) := by decide +kernel
theorem dX1_init_30 : decode cX1_init 30 = .ok (.putfield 21, 3) := by decide +kernel
theorem dX1_init_33 : decode cX1_init 33 = .ok (.aload_n 0, 1) := by decide +kernel
theorem dX1_init_34 : decode cX1_init 34 = .ok (.iconst 4, 1) := by decide +kernel
theorem dX1_init_35 : decode cX1_init 35 = .ok (.newarray .int, 2) := by decide +kernel
theorem dX1_init_37 : decode cX1_init 37 = .ok (.putfield 24, 3) := by decide +kernel
theorem dX1_init_40 : decode cX1_init 40 = .ok (.aload_n 0, 1) := by decide +kernel
theorem dX1_init_41 : decode cX1_init 41 = .ok (.bipush 8, 2) := by decide +kernel
theorem dX1_init_43 : decode cX1_init 43 = .ok (.newarray .int, 2) := by decide +kernel
theorem dX1_init_45 : decode cX1_init 45 = .ok (.putfield 27, 3) := by decide +kernel
theorem dX1_init_48 : decode cX1_init 48 = .ok (.aload_n 0, 1) := by decide +kernel
theorem dX1_init_49 : decode cX1_init 49 = .ok (.bipush 8, 2) := by decide +kernel
theorem dX1_init_51 : decode cX1_init 51 = .ok (.newarray .int, 2) := by decide +kernel
theorem dX1_init_53 : decode cX1_init 53 = .ok (.putfield 30, 3) := by decide +kernel
theorem dX1_init_56 : decode cX1_init 56 = .ok (.aload_n 0, 1) := by decide +kernel
theorem dX1_init_57 : decode cX1_init 57 = .ok (.bipush 8, 2) := by decide +kernel
theorem dX1_init_59 : decode cX1_init 59 = .ok (.newarray .int, 2) := by decide +kernel
theorem dX1_init_61 : decode cX1_init 61 = .ok (.putfield 33, 3) := by decide +kernel
theorem dX1_init_64 : decode cX1_init 64 = .ok (.aload_n 0, 1) := by decide +kernel
theorem dX1_init_65 : decode cX1_init 65 = .ok (.bipush 8, 2) := by decide +kernel
theorem dX1_init_67 : decode cX1_init 67 = .ok (.newarray .int, 2) := by decide +kernel
theorem dX1_init_69 : decode cX1_init 69 = .ok (.putfield 36, 3) := by decide +kernel
theorem dX1_init_72 : decode cX1_init 72 = .ok (.aload_n 0, 1) := by decide +kernel
theorem dX1_init_73 : decode cX1_init 73 = .ok (.bipush 6, 2) := by decide +kernel
theorem dX1_init_75 : decode cX1_init 75 = .ok (.newarray .int, 2) := by decide +kernel
theorem dX1_init_77 : decode cX1_init 77 = .ok (.putfield 39, 3) := by decide +kernel
theorem dX1_init_80 : decode cX1_init 80 = .ok (.aload_n 0, 1) := by decide +kernel
theorem dX1_init_81 : decode cX1_init 81 = .ok (.aload_n 1, 1) := by decide +kernel
theorem dX1_init_82 : decode cX1_init 82 = .ok (.putfield 42, 3) := by decide +kernel
theorem dX1_init_85 : decode cX1_init 85 = .ok (.return_, 1) := by decide +kernel
theorem dX1_become_0 : decode cX1_become 0 = .ok (.aload_n 0, 1) := by decide +kernel
theorem dX1_become_1 : decode cX1_become 1 = .ok (.aload_n 1, 1) := by decide +kernel
theorem dX1_become_2 : decode cX1_become 2 = .ok (.getfield 42, 3) := by decide +kernel
theorem dX1_become_5 : decode cX1_become 5 = .ok (.putfield 42, 3) := by decide +kernel
theorem dX1_become_8 : decode cX1_become 8 = .ok (.aload_n 0, 1) := by decide +kernel
theorem dX1_become_9 : decode cX1_become 9 = .ok (.aload_n 1, 1) := by decide +kernel
theorem dX1_become_10 : decode cX1_become 10 = .ok (.getfield 46, 3) := by decide +kernel
theorem dX1_become_13 : decode cX1_become 13 = .ok (.putfield 46, 3) := by decide +kernel
theorem dX1_become_16 : decode cX1_become 16 = .ok (.aload_n 0, 1) := by decide +kernel
theorem dX1_become_17 : decode cX1_become 17 = .ok (.aload_n 1, 1) := by decide +kernel
theorem dX1_become_18 : decode cX1_become 18 = .ok (.getfield 50, 3) := by decide +kernel
theorem dX1_become_21 : decode cX1_become 21 = .ok (.putfield 50, 3) := by decide +kernel
theorem dX1_become_24 : decode cX1_become 24 = .ok (.aload_n 1, 1) := by decide +kernel
theorem dX1_become_25 : decode cX1_become 25 = .ok (.getfield 9, 3) := by decide +kernel
theorem dX1_become_28 : decode cX1_become 28 = .ok (.iconst 0, 1) := by decide +kernel
theorem dX1_become_29 : decode cX1_become 29 = .ok (.aload_n 0, 1) := by decide +kernel
theorem dX1_become_30 : decode cX1_become 30 = .ok (.getfield 9, 3) := by decide +kernel
theorem dX1_become_33 : decode cX1_become 33 = .ok (.iconst 0, 1) := by decide +kernel
theorem dX1_become_34 : decode cX1_become 34 = .ok (.iconst 4, 1) := by decide +kernel
theorem dX1_become_35 : decode cX1_become 35 = .ok (.invokestatic 53, 3) := by decide +kernel
theorem dX1_become_38 : decode cX1_become 38 = .ok (.aload_n 1, 1) := by decide +kernel
theorem dX1_become_39 : decode cX1_become 39 = .ok (.getfield 15, 3) := by decide +kernel
theorem dX1_become_42 : decode cX1_become 42 = .ok (.iconst 0, 1) := by decide +kernel
theorem dX1_become_43 : decode cX1_become 43 = .ok (.aload_n 0, 1) := by decide +kernel
theorem dX1_become_44 : decode cX1_become 44 = .ok (.getfield 15, 3) := by decide +kernel
theorem dX1_become_47 : decode cX1_become 47 = .ok (.iconst 0, 1) := by decide +kernel
theorem dX1_become_48 : decode cX1_become 48 = .ok (.bipush 12, 2) := by decide +kernel
theorem dX1_become_50 : decode cX1_become 50 = .ok (.invokestatic 53, 3) := by decide +kernel
theorem dX1_become_53 : decode cX1_become 53 = .ok (.aload_n 1, 1) := by decide +kernel
theorem dX1_become_54 : decode cX1_become 54 = .ok (.getfield 18, 3) := by decide +kernel
theorem dX1_become_57 : decode cX1_become 57 = .ok (.iconst 0, 1) := by decide +kernel
theorem dX1_become_58 : decode cX1_become 58 = .ok (.aload_n 0, 1) := by decide +kernel
theorem dX1_become_59 : decode cX1_become 59 = .ok (.getfield 18, 3) := by decide +kernel
theorem dX1_become_62 : decode cX1_become 62 = .ok (.iconst 0, 1) := by decide +kernel
theorem dX1_become_63 : decode cX1_become 63 = .ok (.iconst 4, 1) := by decide +kernel
theorem dX1_become_64 : decode cX1_become 64 = .ok (.invokestatic 53, 3) := by decide +kernel
theorem dX1_become_67 : decode cX1_become 67 = .ok (.aload_n 1, 1) := by decide +kernel
theorem dX1_become_68 : decode cX1_become 68 = .ok (.getfield 21, 3) := by decide +kernel
theorem dX1_become_71 : decode cX1_become 71 = .ok (.iconst 0, 1) := by decide +kernel
theorem dX1_become_72 : decode cX1_become 72 = .ok (.aload_n 0, 1) := by decide +kernel
theorem dX1_become_73 : decode cX1_become 73 = .ok (.getfield 21, 3) := by decide +kernel
theorem dX1_become_76 : decode cX1_become 76 = .ok (.iconst 0, 1) := by decide +kernel
theorem dX1_become_77 : decode cX1_become 77 = .ok (.iconst 4, 1) := by decide +kernel
theorem dX1_become_78 : decode cX1_become 78 = .ok (.invokestatic 53, 3) := by decide +kernel
theorem dX1_become_81 : decode cX1_become 81 = .ok (.aload_n 1, 1) := by decide +kernel
theorem dX1_become_82 : decode cX1_become 82 = .ok (.getfield 24, 3) := by decide +kernel
theorem dX1_become_85 : decode cX1_become 85 = .ok (.iconst 0, 1) := by decide +kernel
theorem dX1_become_86 : decode cX1_become 86 = .ok (.aload_n 0, 1) := by decide +kernel
theorem dX1_become_87 : decode cX1_become 87 = .ok (.getfield 24, 3) := by decide +kernel
theorem dX1_become_90 : decode cX1_become 90 = .ok (.iconst 0, 1) := by decide +kernel
theorem dX1_become_91 : decode cX1_become 91 = .ok (.iconst 4, 1) := by decide +kernel
theorem dX1_become_92 : decode cX1_become 92 = .ok (.invokestatic 53, 3) := by decide +kernel
theorem dX1_become_95 : decode cX1_become 95 = .ok (.aload_n 1, 1) := by decide +kernel
theorem dX1_become_96 : decode cX1_become 96 = .ok (.getfield 27, 3) := by decide +kernel
theorem dX1_become_99 : decode cX1_become 99 = .ok (.iconst 0, 1) := by decide +kernel
theorem dX1_become_100 : decode cX1_become 100 = .ok (.aload_n 0, 1) := by decide +kernel
theorem dX1_become_101 : decode cX1_become 101 = .ok (.getfield 27, 3) := by decide +kernel
theorem dX1_become_104 : decode cX1_become 104 = .ok (.iconst 0, 1) := by decide +kernel
theorem dX1_become_105 : decode cX1_become 105 = .ok (.bipush 8, 2) := by decide +kernel
theorem dX1_become_107 : decode cX1_become 107 = .ok (.invokestatic 53, 3) := by decide +kernel
theorem dX1_become_110 : decode cX1_become 110 = .ok (.aload_n 1, 1) := by decide +kernel
theorem dX1_become_111 : decode cX1_become 111 = .ok (.getfield 30, 3) := by decide +kernel
theorem dX1_become_114 : decode cX1_become 114 = .ok (.iconst 0, 1) := by decide +kernel
theorem dX1_become_115 : decode cX1_become 115 = .ok (.aload_n 0, 1) := by decide +kernel
theorem dX1_become_116 : decode cX1_become 116 = .ok (.getfield 30, 3) := by decide +kernel
theorem dX1_become_119 : decode cX1_become 119 = .ok (.iconst 0, 1) := by decide +kernel
theorem dX1_become_120 : decode cX1_become 120 = .ok (.bipush 8, 2) := by decide +kernel
theorem dX1_become_122 : decode cX1_become 122 = .ok (.invokestatic 53, 3) := by decide +kernel
theorem dX1_become_125 : decode cX1_become 125 = .ok (.aload_n 1, 1) := by decide +kernel
theorem dX1_become_126 : decode cX1_become 126 = .ok (.getfield 33, 3) := by decide +kernel
theorem dX1_become_129 : decode cX1_become 129 = .ok (.iconst 0, 1) := by decide +kernel
theorem dX1_become_130 : decode cX1_become 130 = .ok (.aload_n 0, 1) := by decide +kernel
theorem dX1_become_131 : decode cX1_become 131 = .ok (.getfield 33, 3) := by decide +kernel
theorem dX1_become_134 : decode cX1_become 134 = .ok (.iconst 0, 1) := by decide +kernel
theorem dX1_become_135 : decode cX1_become 135 = .ok (.bipush 8, 2) := by decide +kernel
theorem dX1_become_137 : decode cX1_become 137 = .ok (.invokestatic 53, 3) := by decide +kernel
theorem dX1_become_140 : decode cX1_become 140 = .ok (.aload_n 1, 1) := by decide +kernel
theorem dX1_become_141 : decode cX1_become 141 = .ok (.getfield 36, 3) := by decide +kernel
theorem dX1_become_144 : decode cX1_become 144 = .ok (.iconst 0, 1) := by decide +kernel
theorem dX1_become_145 : decode cX1_become 145 = .ok (.aload_n 0, 1) := by decide +kernel
theorem dX1_become_146 : decode cX1_become 146 = .ok (.getfield 36, 3) := by decide +kernel
theorem dX1_become_149 : decode cX1_become 149 = .ok (.iconst 0, 1) := by decide +kernel
theorem dX1_become_150 : decode cX1_become 150 = .ok (.bipush 8, 2) := by decide +kernel
theorem dX1_become_152 : decode cX1_become 152 = .ok (.invokestatic 53, 3) := by decide +kernel
theorem dX1_become_155 : decode cX1_become 155 = .ok (.return_, 1) := by decide +kernel
theorem dX1_join_0 : decode cX1_join 0 = .ok (.aload_n 0, 1) := by decide +kernel
theorem dX1_join_1 : decode cX1_join 1 = .ok (.getfield 50, 3) := by decide +kernel
theorem dX1_join_4 : decode cX1_join 4 = .ok (.bipush 8, 2) := by decide +kernel
theorem dX1_join_6 : decode cX1_join 6 = .ok (.if_icmp .lt 6, 3) := by decide +kernel
theorem dX1_join_9 : decode cX1_join 9 = .ok (.bipush (-4), 2) := by decide +kernel
theorem dX1_join_11 : decode cX1_join 11 = .ok (.ireturn, 1) := by decide +kernel
theorem dX1_join_12 : decode cX1_join 12 = .ok (.aload_n 0, 1) := by decide +kernel
theorem dX1_join_13 : decode cX1_join 13 = .ok (.getfield 27, 3) := by decide +kernel
theorem dX1_join_16 : decode cX1_join 16 = .ok (.aload_n 0, 1) := by decide +kernel
theorem dX1_join_17 : decode cX1_join 17 = .ok (.getfield 50, 3) := by decide +kernel
theorem dX1_join_20 : decode cX1_join 20 = .ok (.iload_n 1, 1) := by decide +kernel
theorem dX1_join_21 : decode cX1_join 21 = .ok (.iastore, 1) := by decide +kernel
theorem dX1_join_22 : decode cX1_join 22 = .ok (.aload_n 0, 1) := by decide +kernel
theorem dX1_join_23 : decode cX1_join 23 = .ok (.getfield 30, 3) := by decide +kernel
theorem dX1_join_26 : decode cX1_join 26 = .ok (.aload_n 0, 1) := by decide +kernel
theorem dX1_join_27 : decode cX1_join 27 = .ok (.getfield 50, 3) := by decide +kernel
theorem dX1_join_30 : decode cX1_join 30 = .ok (.iload_n 2, 1) := by decide +kernel
theorem dX1_join_31 : decode cX1_join 31 = .ok (.iastore, 1) := by decide +kernel
theorem dX1_join_32 : decode cX1_join 32 = .ok (.aload_n 0, 1) := by decide +kernel
theorem dX1_join_33 : decode cX1_join 33 = .ok (.getfield 33, 3) := by decide +kernel
theorem dX1_join_36 : decode cX1_join 36 = .ok (.aload_n 0, 1) := by decide +kernel
theorem dX1_join_37 : decode cX1_join 37 = .ok (.getfield 50, 3) := by decide +kernel
theorem dX1_join_40 : decode cX1_join 40 = .ok (.iload_n 3, 1) := by decide +kernel
theorem dX1_join_41 : decode cX1_join 41 = .ok (.iastore, 1) := by decide +kernel
theorem dX1_join_42 : decode cX1_join 42 = .ok (.aload_n 0, 1) := by decide +kernel
theorem dX1_join_43 : decode cX1_join 43 = .ok (.getfield 36, 3) := by decide +kernel
theorem dX1_join_46 : decode cX1_join 46 = .ok (.aload_n 0, 1) := by decide +kernel
theorem dX1_join_47 : decode cX1_join 47 = .ok (.getfield 50, 3) := by decide +kernel
theorem dX1_join_50 : decode cX1_join 50 = .ok (.iload_n 3, 1) := by decide +kernel
theorem dX1_join_51 : decode cX1_join 51 = .ok (.iastore, 1) := by decide +kernel
theorem dX1_join_52 : decode cX1_join 52 = .ok (.aload_n 0, 1) := by decide +kernel
theorem dX1_join_53 : decode cX1_join 53 = .ok (.dup, 1) := by decide +kernel
theorem dX1_join_54 : decode cX1_join 54 = .ok (.getfield 50, 3) := by decide +kernel
theorem dX1_join_57 : decode cX1_join 57 = .ok (.dup_x1, 1) := by decide +kernel
theorem dX1_join_58 : decode cX1_join 58 = .ok (.iconst 1, 1) := by decide +kernel
theorem dX1_join_59 : decode cX1_join 59 = .ok (.iadd, 1) := by decide +kernel
theorem dX1_join_60 : decode cX1_join 60 = .ok (.putfield 50, 3) := by decide +kernel
theorem dX1_join_63 : decode cX1_join 63 = .ok (.ireturn, 1) := by decide +kernel
theorem dX1_crowd_0 : decode cX1_crowd 0 = .ok (.iconst 0, 1) := by decide +kernel
theorem dX1_crowd_1 : decode cX1_crowd 1 = .ok (.istore_n 2, 1) := by decide +kernel
theorem dX1_crowd_2 : decode cX1_crowd 2 = .ok (.iconst 0, 1) := by decide +kernel
theorem dX1_crowd_3 : decode cX1_crowd 3 = .ok (.istore_n 3, 1) := by decide +kernel
theorem dX1_crowd_4 : decode cX1_crowd 4 = .ok (.iload_n 3, 1) := by decide +kernel
theorem dX1_crowd_5 : decode cX1_crowd 5 = .ok (.aload_n 0, 1) := by decide +kernel
theorem dX1_crowd_6 : decode cX1_crowd 6 = .ok (.getfield 50, 3) := by decide +kernel
theorem dX1_crowd_9 : decode cX1_crowd 9 = .ok (.if_icmp .ge 22, 3) := by decide +kernel
theorem dX1_crowd_12 : decode cX1_crowd 12 = .ok (.aload_n 0, 1) := by decide +kernel
theorem dX1_crowd_13 : decode cX1_crowd 13 = .ok (.getfield 33, 3) := by decide +kernel
theorem dX1_crowd_16 : decode cX1_crowd 16 = .ok (.iload_n 3, 1) := by decide +kernel
theorem dX1_crowd_17 : decode cX1_crowd 17 = .ok (.iaload, 1) := by decide +kernel
theorem dX1_crowd_18 : decode cX1_crowd 18 = .ok (.iload_n 1, 1) := by decide +kernel
theorem dX1_crowd_19 : decode cX1_crowd 19 = .ok (.if_icmp .ne 6, 3) := by decide +kernel
theorem dX1_crowd_22 : decode cX1_crowd 22 = .ok (.iinc 2 1, 3) := by decide +kernel
theorem dX1_crowd_25 : decode cX1_crowd 25 = .ok (.iinc 3 1, 3) := by decide +kernel
theorem dX1_crowd_28 : decode cX1_crowd 28 = .ok (.goto (-24), 3) := by decide +kernel
theorem dX1_crowd_31 : decode cX1_crowd 31 = .ok (.iload_n 2, 1) := by decide +kernel
theorem dX1_crowd_32 : decode cX1_crowd 32 = .ok (.ireturn, 1) := by decide +kernel
theorem dX1_hasRoom_0 : decode cX1_hasRoom 0 = .ok (.aload_n 0, 1) := by decide +kernel
theorem dX1_hasRoom_1 : decode cX1_hasRoom 1 = .ok (.iload_n 1, 1) := by decide +kernel
theorem dX1_hasRoom_2 : decode cX1_hasRoom 2 = .ok (.invokevirtual 59, 3) := by decide +kernel
theorem dX1_hasRoom_5 : decode cX1_hasRoom 5 = .ok (.aload_n 0, 1) := by decide +kernel
theorem dX1_hasRoom_6 : decode cX1_hasRoom 6 = .ok (.getfield 9, 3) := by decide +kernel
theorem dX1_hasRoom_9 : decode cX1_hasRoom 9 = .ok (.iload_n 1, 1) := by decide +kernel
theorem dX1_hasRoom_10 : decode cX1_hasRoom 10 = .ok (.iaload, 1) := by decide +kernel
theorem dX1_hasRoom_11 : decode cX1_hasRoom 11 = .ok (.if_icmp .ge 7, 3) := by decide +kernel
theorem dX1_hasRoom_14 : decode cX1_hasRoom 14 = .ok (.iconst 1, 1) := by decide +kernel
theorem dX1_hasRoom_15 : decode cX1_hasRoom 15 = .ok (.goto 4, 3) := by decide +kernel
theorem dX1_hasRoom_18 : decode cX1_hasRoom 18 = .ok (.iconst 0, 1) := by decide +kernel
theorem dX1_hasRoom_19 : decode cX1_hasRoom 19 = .ok (.ireturn, 1) := by decide +kernel
theorem dX1_canGo_0 : decode cX1_canGo 0 = .ok (.aload_n 0, 1) := by decide +kernel
theorem dX1_canGo_1 : decode cX1_canGo 1 = .ok (.getfield 33, 3) := by decide +kernel
theorem dX1_canGo_4 : decode cX1_canGo 4 = .ok (.iload_n 1, 1) := by decide +kernel
theorem dX1_canGo_5 : decode cX1_canGo 5 = .ok (.iaload, 1) := by decide +kernel
theorem dX1_canGo_6 : decode cX1_canGo 6 = .ok (.iload_n 2, 1) := by decide +kernel
theorem dX1_canGo_7 : decode cX1_canGo 7 = .ok (.if_icmp .eq 30, 3) := by decide +kernel
theorem dX1_canGo_10 : decode cX1_canGo 10 = .ok (.aload_n 0, 1) := by decide +kernel
theorem dX1_canGo_11 : decode cX1_canGo 11 = .ok (.getfield 30, 3) := by decide +kernel
theorem dX1_canGo_14 : decode cX1_canGo 14 = .ok (.iload_n 1, 1) := by decide +kernel
theorem dX1_canGo_15 : decode cX1_canGo 15 = .ok (.iaload, 1) := by decide +kernel
theorem dX1_canGo_16 : decode cX1_canGo 16 = .ok (.aload_n 0, 1) := by decide +kernel
theorem dX1_canGo_17 : decode cX1_canGo 17 = .ok (.getfield 21, 3) := by decide +kernel
theorem dX1_canGo_20 : decode cX1_canGo 20 = .ok (.iload_n 2, 1) := by decide +kernel
theorem dX1_canGo_21 : decode cX1_canGo 21 = .ok (.iaload, 1) := by decide +kernel
theorem dX1_canGo_22 : decode cX1_canGo 22 = .ok (.if_icmp .lt 15, 3) := by decide +kernel
theorem dX1_canGo_25 : decode cX1_canGo 25 = .ok (.aload_n 0, 1) := by decide +kernel
theorem dX1_canGo_26 : decode cX1_canGo 26 = .ok (.iload_n 2, 1) := by decide +kernel
theorem dX1_canGo_27 : decode cX1_canGo 27 = .ok (.invokevirtual 63, 3) := by decide +kernel
theorem dX1_canGo_30 : decode cX1_canGo 30 = .ok (.ifCond .eq 7, 3) := by decide +kernel
theorem dX1_canGo_33 : decode cX1_canGo 33 = .ok (.iconst 1, 1) := by decide +kernel
theorem dX1_canGo_34 : decode cX1_canGo 34 = .ok (.goto 4, 3) := by decide +kernel
theorem dX1_canGo_37 : decode cX1_canGo 37 = .ok (.iconst 0, 1) := by decide +kernel
theorem dX1_canGo_38 : decode cX1_canGo 38 = .ok (.ireturn, 1) := by decide +kernel
theorem dX1_fits_0 : decode cX1_fits 0 = .ok (.iconst 0, 1) := by decide +kernel
theorem dX1_fits_1 : decode cX1_fits 1 = .ok (.istore_n 1, 1) := by decide +kernel
theorem dX1_fits_2 : decode cX1_fits 2 = .ok (.iload_n 1, 1) := by decide +kernel
theorem dX1_fits_3 : decode cX1_fits 3 = .ok (.aload_n 0, 1) := by decide +kernel
theorem dX1_fits_4 : decode cX1_fits 4 = .ok (.getfield 46, 3) := by decide +kernel
theorem dX1_fits_7 : decode cX1_fits 7 = .ok (.if_icmp .ge 25, 3) := by decide +kernel
theorem dX1_fits_10 : decode cX1_fits 10 = .ok (.aload_n 0, 1) := by decide +kernel
theorem dX1_fits_11 : decode cX1_fits 11 = .ok (.iload_n 1, 1) := by decide +kernel
theorem dX1_fits_12 : decode cX1_fits 12 = .ok (.invokevirtual 59, 3) := by decide +kernel
theorem dX1_fits_15 : decode cX1_fits 15 = .ok (.aload_n 0, 1) := by decide +kernel
theorem dX1_fits_16 : decode cX1_fits 16 = .ok (.getfield 9, 3) := by decide +kernel
theorem dX1_fits_19 : decode cX1_fits 19 = .ok (.iload_n 1, 1) := by decide +kernel
theorem dX1_fits_20 : decode cX1_fits 20 = .ok (.iaload, 1) := by decide +kernel
theorem dX1_fits_21 : decode cX1_fits 21 = .ok (.if_icmp .le 5, 3) := by decide +kernel
theorem dX1_fits_24 : decode cX1_fits 24 = .ok (.iconst 0, 1) := by decide +kernel
theorem dX1_fits_25 : decode cX1_fits 25 = .ok (.ireturn, 1) := by decide +kernel
theorem dX1_fits_26 : decode cX1_fits 26 = .ok (.iinc 1 1, 3) := by decide +kernel
theorem dX1_fits_29 : decode cX1_fits 29 = .ok (.goto (-27), 3) := by decide +kernel
theorem dX1_fits_32 : decode cX1_fits 32 = .ok (.iconst 1, 1) := by decide +kernel
theorem dX1_fits_33 : decode cX1_fits 33 = .ok (.ireturn, 1) := by decide +kernel
theorem dX1_costOf_0 : decode cX1_costOf 0 = .ok (.aload_n 0, 1) := by decide +kernel
theorem dX1_costOf_1 : decode cX1_costOf 1 = .ok (.getfield 24, 3) := by decide +kernel
theorem dX1_costOf_4 : decode cX1_costOf 4 = .ok (.iload_n 1, 1) := by decide +kernel
theorem dX1_costOf_5 : decode cX1_costOf 5 = .ok (.iaload, 1) := by decide +kernel
theorem dX1_costOf_6 : decode cX1_costOf 6 = .ok (.ineg, 1) := by decide +kernel
theorem dX1_costOf_7 : decode cX1_costOf 7 = .ok (.istore_n 2, 1) := by decide +kernel
theorem dX1_costOf_8 : decode cX1_costOf 8 = .ok (.iconst 0, 1) := by decide +kernel
theorem dX1_costOf_9 : decode cX1_costOf 9 = .ok (.istore_n 3, 1) := by decide +kernel
theorem dX1_costOf_10 : decode cX1_costOf 10 = .ok (.iload_n 3, 1) := by decide +kernel
theorem dX1_costOf_11 : decode cX1_costOf 11 = .ok (.iconst 3, 1) := by decide +kernel
theorem dX1_costOf_12 : decode cX1_costOf 12 = .ok (.if_icmp .ge 32, 3) := by decide +kernel
theorem dX1_costOf_15 : decode cX1_costOf 15 = .ok (.iload_n 2, 1) := by decide +kernel
theorem dX1_costOf_16 : decode cX1_costOf 16 = .ok (.aload_n 0, 1) := by decide +kernel
theorem dX1_costOf_17 : decode cX1_costOf 17 = .ok (.getfield 15, 3) := by decide +kernel
theorem dX1_costOf_20 : decode cX1_costOf 20 = .ok (.iload_n 1, 1) := by decide +kernel
theorem dX1_costOf_21 : decode cX1_costOf 21 = .ok (.iconst 3, 1) := by decide +kernel
theorem dX1_costOf_22 : decode cX1_costOf 22 = .ok (.imul, 1) := by decide +kernel
theorem dX1_costOf_23 : decode cX1_costOf 23 = .ok (.iload_n 3, 1) := by decide +kernel
theorem dX1_costOf_24 : decode cX1_costOf 24 = .ok (.iadd, 1) := by decide +kernel
theorem dX1_costOf_25 : decode cX1_costOf 25 = .ok (.iaload, 1) := by decide +kernel
theorem dX1_costOf_26 : decode cX1_costOf 26 = .ok (.aload_n 0, 1) := by decide +kernel
theorem dX1_costOf_27 : decode cX1_costOf 27 = .ok (.getfield 42, 3) := by decide +kernel
theorem dX1_costOf_30 : decode cX1_costOf 30 = .ok (.getfield 67, 3) := by decide +kernel
theorem dX1_costOf_33 : decode cX1_costOf 33 = .ok (.iload_n 3, 1) := by decide +kernel
theorem dX1_costOf_34 : decode cX1_costOf 34 = .ok (.iaload, 1) := by decide +kernel
theorem dX1_costOf_35 : decode cX1_costOf 35 = .ok (.imul, 1) := by decide +kernel
theorem dX1_costOf_36 : decode cX1_costOf 36 = .ok (.iadd, 1) := by decide +kernel
theorem dX1_costOf_37 : decode cX1_costOf 37 = .ok (.istore_n 2, 1) := by decide +kernel
theorem dX1_costOf_38 : decode cX1_costOf 38 = .ok (.iinc 3 1, 3) := by decide +kernel
theorem dX1_costOf_41 : decode cX1_costOf 41 = .ok (.goto (-31), 3) := by decide +kernel
theorem dX1_costOf_44 : decode cX1_costOf 44 = .ok (.iload_n 2, 1) := by decide +kernel
theorem dX1_costOf_45 : decode cX1_costOf 45 = .ok (.ifCond .ge 7, 3) := by decide +kernel
theorem dX1_costOf_48 : decode cX1_costOf 48 = .ok (.iconst 0, 1) := by decide +kernel
theorem dX1_costOf_49 : decode cX1_costOf 49 = .ok (.goto 4, 3) := by decide +kernel
theorem dX1_costOf_52 : decode cX1_costOf 52 = .ok (.iload_n 2, 1) := by decide +kernel
theorem dX1_costOf_53 : decode cX1_costOf 53 = .ok (.ireturn, 1) := by decide +kernel
theorem dX1_isAsIfIn_0 : decode cX1_isAsIfIn 0 = .ok (.aload_n 0, 1) := by decide +kernel
theorem dX1_isAsIfIn_1 : decode cX1_isAsIfIn 1 = .ok (.getfield 33, 3) := by decide +kernel
theorem dX1_isAsIfIn_4 : decode cX1_isAsIfIn 4 = .ok (.iload_n 2, 1) := by decide +kernel
theorem dX1_isAsIfIn_5 : decode cX1_isAsIfIn 5 = .ok (.iaload, 1) := by decide +kernel
theorem dX1_isAsIfIn_6 : decode cX1_isAsIfIn 6 = .ok (.iload_n 1, 1) := by decide +kernel
theorem dX1_isAsIfIn_7 : decode cX1_isAsIfIn 7 = .ok (.if_icmp .eq 8, 3) := by decide +kernel
theorem dX1_isAsIfIn_10 : decode cX1_isAsIfIn 10 = .ok (.iload_n 2, 1) := by decide +kernel
theorem dX1_isAsIfIn_11 : decode cX1_isAsIfIn 11 = .ok (.iload_n 3, 1) := by decide +kernel
theorem dX1_isAsIfIn_12 : decode cX1_isAsIfIn 12 = .ok (.if_icmp .ne 7, 3) := by decide +kernel
theorem dX1_isAsIfIn_15 : decode cX1_isAsIfIn 15 = .ok (.iconst 1, 1) := by decide +kernel
theorem dX1_isAsIfIn_16 : decode cX1_isAsIfIn 16 = .ok (.goto 4, 3) := by decide +kernel
theorem dX1_isAsIfIn_19 : decode cX1_isAsIfIn 19 = .ok (.iconst 0, 1) := by decide +kernel
theorem dX1_isAsIfIn_20 : decode cX1_isAsIfIn 20 = .ok (.ireturn, 1) := by decide +kernel
theorem dX1_greatestIncome_0 : decode cX1_greatestIncome 0 = .ok (.iconst 0, 1) := by decide +kernel
theorem dX1_greatestIncome_1 : decode cX1_greatestIncome 1 = .ok (.istore_n 3, 1) := by decide +kernel
theorem dX1_greatestIncome_2 : decode cX1_greatestIncome 2 = .ok (.iconst 0, 1) := by decide +kernel
theorem dX1_greatestIncome_3 : decode cX1_greatestIncome 3 = .ok (.istore 4, 2) := by decide +kernel
theorem dX1_greatestIncome_5 : decode cX1_greatestIncome 5 = .ok (.iload 4, 2) := by decide +kernel
theorem dX1_greatestIncome_7 : decode cX1_greatestIncome 7 = .ok (.aload_n 0, 1) := by decide +kernel
theorem dX1_greatestIncome_8 : decode cX1_greatestIncome 8 = .ok (.getfield 50, 3) := by decide +kernel
theorem dX1_greatestIncome_11 : decode cX1_greatestIncome 11 = .ok (.if_icmp .ge 39, 3) := by decide +kernel
theorem dX1_greatestIncome_14 : decode cX1_greatestIncome 14 = .ok (.aload_n 0, 1) := by decide +kernel
theorem dX1_greatestIncome_15 : decode cX1_greatestIncome 15 = .ok (.iload_n 1, 1) := by decide +kernel
theorem dX1_greatestIncome_16 : decode cX1_greatestIncome 16 = .ok (.iload 4, 2) := by decide +kernel
theorem dX1_greatestIncome_18 : decode cX1_greatestIncome 18 = .ok (.iload_n 2, 1) := by decide +kernel
theorem dX1_greatestIncome_19 : decode cX1_greatestIncome 19 = .ok (.invokevirtual 72, 3) := by decide +kernel
theorem dX1_greatestIncome_22 : decode cX1_greatestIncome 22 = .ok (.ifCond .eq 22, 3) := by decide +kernel
theorem dX1_greatestIncome_25 : decode cX1_greatestIncome 25 = .ok (.aload_n 0, 1) := by decide +kernel
theorem dX1_greatestIncome_26 : decode cX1_greatestIncome 26 = .ok (.getfield 30, 3) := by decide +kernel
theorem dX1_greatestIncome_29 : decode cX1_greatestIncome 29 = .ok (.iload 4, 2) := by decide +kernel
theorem dX1_greatestIncome_31 : decode cX1_greatestIncome 31 = .ok (.iaload, 1) := by decide +kernel
theorem dX1_greatestIncome_32 : decode cX1_greatestIncome 32 = .ok (.iload_n 3, 1) := by decide +kernel
theorem dX1_greatestIncome_33 : decode cX1_greatestIncome 33 = .ok (.if_icmp .le 11, 3) := by decide +kernel
theorem dX1_greatestIncome_36 : decode cX1_greatestIncome 36 = .ok (.aload_n 0, 1) := by decide +kernel
theorem dX1_greatestIncome_37 : decode cX1_greatestIncome 37 = .ok (.getfield 30, 3) := by decide +kernel
theorem dX1_greatestIncome_40 : decode cX1_greatestIncome 40 = .ok (.iload 4, 2) := by decide +kernel
theorem dX1_greatestIncome_42 : decode cX1_greatestIncome 42 = .ok (.iaload, 1) := by decide +kernel
theorem dX1_greatestIncome_43 : decode cX1_greatestIncome 43 = .ok (.istore_n 3, 1) := by decide +kernel
theorem dX1_greatestIncome_44 : decode cX1_greatestIncome 44 = .ok (.iinc 4 1, 3) := by decide +kernel
theorem dX1_greatestIncome_47 : decode cX1_greatestIncome 47 = .ok (.goto (-42), 3) := by decide +kernel
theorem dX1_greatestIncome_50 : decode cX1_greatestIncome 50 = .ok (.iload_n 3, 1) := by decide +kernel
theorem dX1_greatestIncome_51 : decode cX1_greatestIncome 51 = .ok (.ireturn, 1) := by decide +kernel
theorem dX1_share_0 : decode cX1_share 0 = .ok (.aload_n 0, 1) := by decide +kernel
theorem dX1_share_1 : decode cX1_share 1 = .ok (.getfield 42, 3) := by decide +kernel
theorem dX1_share_4 : decode cX1_share 4 = .ok (.getfield 76, 3) := by decide +kernel
theorem dX1_share_7 : decode cX1_share 7 = .ok (.lookupswitch 34 #[(0, 25), (1, 27)], 25) := by decide +kernel
theorem dX1_share_32 : decode cX1_share 32 = .ok (.iconst 1, 1) := by decide +kernel
theorem dX1_share_33 : decode cX1_share 33 = .ok (.ireturn, 1) := by decide +kernel
theorem dX1_share_34 : decode cX1_share 34 = .ok (.aload_n 0, 1) := by decide +kernel
theorem dX1_share_35 : decode cX1_share 35 = .ok (.getfield 30, 3) := by decide +kernel
theorem dX1_share_38 : decode cX1_share 38 = .ok (.iload_n 1, 1) := by decide +kernel
theorem dX1_share_39 : decode cX1_share 39 = .ok (.iaload, 1) := by decide +kernel
theorem dX1_share_40 : decode cX1_share 40 = .ok (.ireturn, 1) := by decide +kernel
theorem dX1_share_41 : decode cX1_share 41 = .ok (.iconst 2, 1) := by decide +kernel
theorem dX1_share_42 : decode cX1_share 42 = .ok (.aload_n 0, 1) := by decide +kernel
theorem dX1_share_43 : decode cX1_share 43 = .ok (.getfield 30, 3) := by decide +kernel
theorem dX1_share_46 : decode cX1_share 46 = .ok (.iload_n 1, 1) := by decide +kernel
theorem dX1_share_47 : decode cX1_share 47 = .ok (.iaload, 1) := by decide +kernel
theorem dX1_share_48 : decode cX1_share 48 = .ok (.imul, 1) := by decide +kernel
theorem dX1_share_49 : decode cX1_share 49 = .ok (.iload_n 2, 1) := by decide +kernel
theorem dX1_share_50 : decode cX1_share 50 = .ok (.if_icmp .lt 7, 3) := by decide +kernel
theorem dX1_share_53 : decode cX1_share 53 = .ok (.iconst 1, 1) := by decide +kernel
theorem dX1_share_54 : decode cX1_share 54 = .ok (.goto 4, 3) := by decide +kernel
theorem dX1_share_57 : decode cX1_share 57 = .ok (.iconst 0, 1) := by decide +kernel
theorem dX1_share_58 : decode cX1_share 58 = .ok (.ireturn, 1) := by decide +kernel
theorem dX1_sharesTogether_0 : decode cX1_sharesTogether 0 = .ok (.iconst 0, 1) := by decide +kernel
theorem dX1_sharesTogether_1 : decode cX1_sharesTogether 1 = .ok (.istore 4, 2) := by decide +kernel
theorem dX1_sharesTogether_3 : decode cX1_sharesTogether 3 = .ok (.iconst 0, 1) := by decide +kernel
theorem dX1_sharesTogether_4 : decode cX1_sharesTogether 4 = .ok (.istore 5, 2) := by decide +kernel
theorem dX1_sharesTogether_6 : decode cX1_sharesTogether 6 = .ok (.iload 5, 2) := by decide +kernel
theorem dX1_sharesTogether_8 : decode cX1_sharesTogether 8 = .ok (.aload_n 0, 1) := by decide +kernel
theorem dX1_sharesTogether_9 : decode cX1_sharesTogether 9 = .ok (.getfield 50, 3) := by decide +kernel
theorem dX1_sharesTogether_12 : decode cX1_sharesTogether 12 = .ok (.if_icmp .ge 32, 3) := by decide +kernel
theorem dX1_sharesTogether_15 : decode cX1_sharesTogether 15 = .ok (.aload_n 0, 1) := by decide +kernel
theorem dX1_sharesTogether_16 : decode cX1_sharesTogether 16 = .ok (.iload_n 1, 1) := by decide +kernel
theorem dX1_sharesTogether_17 : decode cX1_sharesTogether 17 = .ok (.iload 5, 2) := by decide +kernel
theorem dX1_sharesTogether_19 : decode cX1_sharesTogether 19 = .ok (.iload_n 2, 1) := by decide +kernel
theorem dX1_sharesTogether_20 : decode cX1_sharesTogether 20 = .ok (.invokevirtual 72, 3) := by decide +kernel
theorem dX1_sharesTogether_23 : decode cX1_sharesTogether 23 = .ok (.ifCond .eq 15, 3) := by decide +kernel
theorem dX1_sharesTogether_26 : decode cX1_sharesTogether 26 = .ok (.iload 4, 2) := by decide +kernel
theorem dX1_sharesTogether_28 : decode cX1_sharesTogether 28 = .ok (.aload_n 0, 1) := by decide +kernel
theorem dX1_sharesTogether_29 : decode cX1_sharesTogether 29 = .ok (.iload 5, 2) := by decide +kernel
theorem dX1_sharesTogether_31 : decode cX1_sharesTogether 31 = .ok (.iload_n 3, 1) := by decide +kernel
theorem dX1_sharesTogether_32 : decode cX1_sharesTogether 32 = .ok (.invokevirtual 79, 3) := by decide +kernel
theorem dX1_sharesTogether_35 : decode cX1_sharesTogether 35 = .ok (.iadd, 1) := by decide +kernel
theorem dX1_sharesTogether_36 : decode cX1_sharesTogether 36 = .ok (.istore 4, 2) := by decide +kernel
theorem dX1_sharesTogether_38 : decode cX1_sharesTogether 38 = .ok (.iinc 5 1, 3) := by decide +kernel
theorem dX1_sharesTogether_41 : decode cX1_sharesTogether 41 = .ok (.goto (-35), 3) := by decide +kernel
theorem dX1_sharesTogether_44 : decode cX1_sharesTogether 44 = .ok (.iload 4, 2) := by decide +kernel
theorem dX1_sharesTogether_46 : decode cX1_sharesTogether 46 = .ok (.ireturn, 1) := by decide +kernel
theorem dX1_cutPart_0 : decode cX1_cutPart 0 = .ok (.iload_n 2, 1) := by decide +kernel
theorem dX1_cutPart_1 : decode cX1_cutPart 1 = .ok (.ifCond .ne 7, 3) := by decide +kernel
theorem dX1_cutPart_4 : decode cX1_cutPart 4 = .ok (.iconst 0, 1) := by decide +kernel
theorem dX1_cutPart_5 : decode cX1_cutPart 5 = .ok (.goto 8, 3) := by decide +kernel
theorem dX1_cutPart_8 : decode cX1_cutPart 8 = .ok (.iload_n 0, 1) := by decide +kernel
theorem dX1_cutPart_9 : decode cX1_cutPart 9 = .ok (.iload_n 1, 1) := by decide +kernel
theorem dX1_cutPart_10 : decode cX1_cutPart 10 = .ok (.imul, 1) := by decide +kernel
theorem dX1_cutPart_11 : decode cX1_cutPart 11 = .ok (.iload_n 2, 1) := by decide +kernel
theorem dX1_cutPart_12 : decode cX1_cutPart 12 = .ok (.idiv, 1) := by decide +kernel
theorem dX1_cutPart_13 : decode cX1_cutPart 13 = .ok (.ireturn, 1) := by decide +kernel
theorem dX1_duesOf_0 : decode cX1_duesOf 0 = .ok (.aload_n 0, 1) := by decide +kernel
theorem dX1_duesOf_1 : decode cX1_duesOf 1 = .ok (.iload_n 2, 1) := by decide +kernel
theorem dX1_duesOf_2 : decode cX1_duesOf 2 = .ok (.iload_n 1, 1) := by decide +kernel
theorem dX1_duesOf_3 : decode cX1_duesOf 3 = .ok (.invokevirtual 83, 3) := by decide +kernel
theorem dX1_duesOf_6 : decode cX1_duesOf 6 = .ok (.istore_n 3, 1) := by decide +kernel
theorem dX1_duesOf_7 : decode cX1_duesOf 7 = .ok (.aload_n 0, 1) := by decide +kernel
theorem dX1_duesOf_8 : decode cX1_duesOf 8 = .ok (.iload_n 2, 1) := by decide +kernel
theorem dX1_duesOf_9 : decode cX1_duesOf 9 = .ok (.invokevirtual 86, 3) := by decide +kernel
theorem dX1_duesOf_12 : decode cX1_duesOf 12 = .ok (.aload_n 0, 1) := by decide +kernel
theorem dX1_duesOf_13 : decode cX1_duesOf 13 = .ok (.iload_n 1, 1) := by decide +kernel
theorem dX1_duesOf_14 : decode cX1_duesOf 14 = .ok (.iload_n 3, 1) := by decide +kernel
theorem dX1_duesOf_15 : decode cX1_duesOf 15 = .ok (.invokevirtual 79, 3) := by decide +kernel
theorem dX1_duesOf_18 : decode cX1_duesOf 18 = .ok (.aload_n 0, 1) := by decide +kernel
theorem dX1_duesOf_19 : decode cX1_duesOf 19 = .ok (.iload_n 2, 1) := by decide +kernel
theorem dX1_duesOf_20 : decode cX1_duesOf 20 = .ok (.iload_n 1, 1) := by decide +kernel
theorem dX1_duesOf_21 : decode cX1_duesOf 21 = .ok (.iload_n 3, 1) := by decide +kernel
theorem dX1_duesOf_22 : decode cX1_duesOf 22 = .ok (.invokevirtual 89, 3) := by decide +kernel
theorem dX1_duesOf_25 : decode cX1_duesOf 25 = .ok (.invokestatic 93, 3) := by decide +kernel
theorem dX1_duesOf_28 : decode cX1_duesOf 28 = .ok (.ireturn, 1) := by decide +kernel
theorem dX1_worthOf_0 : decode cX1_worthOf 0 = .ok (.aload_n 0, 1) := by decide +kernel
theorem dX1_worthOf_1 : decode cX1_worthOf 1 = .ok (.iload_n 1, 1) := by decide +kernel
theorem dX1_worthOf_2 : decode cX1_worthOf 2 = .ok (.iload_n 2, 1) := by decide +kernel
theorem dX1_worthOf_3 : decode cX1_worthOf 3 = .ok (.invokevirtual 96, 3) := by decide +kernel
theorem dX1_worthOf_6 : decode cX1_worthOf 6 = .ok (.ineg, 1) := by decide +kernel
theorem dX1_worthOf_7 : decode cX1_worthOf 7 = .ok (.aload_n 0, 1) := by decide +kernel
theorem dX1_worthOf_8 : decode cX1_worthOf 8 = .ok (.getfield 18, 3) := by decide +kernel
theorem dX1_worthOf_11 : decode cX1_worthOf 11 = .ok (.iload_n 2, 1) := by decide +kernel
theorem dX1_worthOf_12 : decode cX1_worthOf 12 = .ok (.iaload, 1) := by decide +kernel
theorem dX1_worthOf_13 : decode cX1_worthOf 13 = .ok (.isub, 1) := by decide +kernel
theorem dX1_worthOf_14 : decode cX1_worthOf 14 = .ok (.istore_n 3, 1) := by decide +kernel
theorem dX1_worthOf_15 : decode cX1_worthOf 15 = .ok (.iconst 0, 1) := by decide +kernel
theorem dX1_worthOf_16 : decode cX1_worthOf 16 = .ok (.istore 4, 2) := by decide +kernel
theorem dX1_worthOf_18 : decode cX1_worthOf 18 = .ok (.iload 4, 2) := by decide +kernel
theorem dX1_worthOf_20 : decode cX1_worthOf 20 = .ok (.iconst 3, 1) := by decide +kernel
theorem dX1_worthOf_21 : decode cX1_worthOf 21 = .ok (.if_icmp .ge 43, 3) := by decide +kernel
theorem dX1_worthOf_24 : decode cX1_worthOf 24 = .ok (.iload_n 3, 1) := by decide +kernel
theorem dX1_worthOf_25 : decode cX1_worthOf 25 = .ok (.aload_n 0, 1) := by decide +kernel
theorem dX1_worthOf_26 : decode cX1_worthOf 26 = .ok (.getfield 15, 3) := by decide +kernel
theorem dX1_worthOf_29 : decode cX1_worthOf 29 = .ok (.iload_n 2, 1) := by decide +kernel
theorem dX1_worthOf_30 : decode cX1_worthOf 30 = .ok (.iconst 3, 1) := by decide +kernel
theorem dX1_worthOf_31 : decode cX1_worthOf 31 = .ok (.imul, 1) := by decide +kernel
theorem dX1_worthOf_32 : decode cX1_worthOf 32 = .ok (.iload 4, 2) := by decide +kernel
theorem dX1_worthOf_34 : decode cX1_worthOf 34 = .ok (.iadd, 1) := by decide +kernel
theorem dX1_worthOf_35 : decode cX1_worthOf 35 = .ok (.iaload, 1) := by decide +kernel
theorem dX1_worthOf_36 : decode cX1_worthOf 36 = .ok (.aload_n 0, 1) := by decide +kernel
theorem dX1_worthOf_37 : decode cX1_worthOf 37 = .ok (.getfield 42, 3) := by decide +kernel
theorem dX1_worthOf_40 : decode cX1_worthOf 40 = .ok (.getfield 99, 3) := by decide +kernel
theorem dX1_worthOf_43 : decode cX1_worthOf 43 = .ok (.aload_n 0, 1) := by decide +kernel
theorem dX1_worthOf_44 : decode cX1_worthOf 44 = .ok (.getfield 27, 3) := by decide +kernel
theorem dX1_worthOf_47 : decode cX1_worthOf 47 = .ok (.iload_n 1, 1) := by decide +kernel
theorem dX1_worthOf_48 : decode cX1_worthOf 48 = .ok (.iaload, 1) := by decide +kernel
theorem dX1_worthOf_49 : decode cX1_worthOf 49 = .ok (.iconst 3, 1) := by decide +kernel
theorem dX1_worthOf_50 : decode cX1_worthOf 50 = .ok (.imul, 1) := by decide +kernel
theorem dX1_worthOf_51 : decode cX1_worthOf 51 = .ok (.iload 4, 2) := by decide +kernel
theorem dX1_worthOf_53 : decode cX1_worthOf 53 = .ok (.iadd, 1) := by decide +kernel
theorem dX1_worthOf_54 : decode cX1_worthOf 54 = .ok (.iaload, 1) := by decide +kernel
theorem dX1_worthOf_55 : decode cX1_worthOf 55 = .ok (.imul, 1) := by decide +kernel
theorem dX1_worthOf_56 : decode cX1_worthOf 56 = .ok (.iadd, 1) := by decide +kernel
theorem dX1_worthOf_57 : decode cX1_worthOf 57 = .ok (.istore_n 3, 1) := by decide +kernel
theorem dX1_worthOf_58 : decode cX1_worthOf 58 = .ok (.iinc 4 1, 3) := by decide +kernel
theorem dX1_worthOf_61 : decode cX1_worthOf 61 = .ok (.goto (-43), 3) := by decide +kernel
theorem dX1_worthOf_64 : decode cX1_worthOf 64 = .ok (.iconst 1, 1) := by decide +kernel
theorem dX1_worthOf_65 : decode cX1_worthOf 65 = .ok (.istore 4, 2) := by decide +kernel
theorem dX1_worthOf_67 : decode cX1_worthOf 67 = .ok (.iconst 0, 1) := by decide +kernel
theorem dX1_worthOf_68 : decode cX1_worthOf 68 = .ok (.istore 5, 2) := by decide +kernel
theorem dX1_worthOf_70 : decode cX1_worthOf 70 = .ok (.iload 5, 2) := by decide +kernel
theorem dX1_worthOf_72 : decode cX1_worthOf 72 = .ok (.aload_n 0, 1) := by decide +kernel
theorem dX1_worthOf_73 : decode cX1_worthOf 73 = .ok (.getfield 50, 3) := by decide +kernel
theorem dX1_worthOf_76 : decode cX1_worthOf 76 = .ok (.if_icmp .ge 56, 3) := by decide +kernel
theorem dX1_worthOf_79 : decode cX1_worthOf 79 = .ok (.iload 5, 2) := by decide +kernel
theorem dX1_worthOf_81 : decode cX1_worthOf 81 = .ok (.iload_n 1, 1) := by decide +kernel
theorem dX1_worthOf_82 : decode cX1_worthOf 82 = .ok (.if_icmp .eq 44, 3) := by decide +kernel
theorem dX1_worthOf_85 : decode cX1_worthOf 85 = .ok (.aload_n 0, 1) := by decide +kernel
theorem dX1_worthOf_86 : decode cX1_worthOf 86 = .ok (.getfield 33, 3) := by decide +kernel
theorem dX1_worthOf_89 : decode cX1_worthOf 89 = .ok (.iload 5, 2) := by decide +kernel
theorem dX1_worthOf_91 : decode cX1_worthOf 91 = .ok (.iaload, 1) := by decide +kernel
theorem dX1_worthOf_92 : decode cX1_worthOf 92 = .ok (.iload_n 2, 1) := by decide +kernel
theorem dX1_worthOf_93 : decode cX1_worthOf 93 = .ok (.if_icmp .ne 33, 3) := by decide +kernel
theorem dX1_worthOf_96 : decode cX1_worthOf 96 = .ok (.iload_n 3, 1) := by decide +kernel
theorem dX1_worthOf_97 : decode cX1_worthOf 97 = .ok (.aload_n 0, 1) := by decide +kernel
theorem dX1_worthOf_98 : decode cX1_worthOf 98 = .ok (.getfield 42, 3) := by decide +kernel
theorem dX1_worthOf_101 : decode cX1_worthOf 101 = .ok (.getfield 102, 3) := by decide +kernel
theorem dX1_worthOf_104 : decode cX1_worthOf 104 = .ok (.aload_n 0, 1) := by decide +kernel
theorem dX1_worthOf_105 : decode cX1_worthOf 105 = .ok (.getfield 27, 3) := by decide +kernel
theorem dX1_worthOf_108 : decode cX1_worthOf 108 = .ok (.iload_n 1, 1) := by decide +kernel
theorem dX1_worthOf_109 : decode cX1_worthOf 109 = .ok (.iaload, 1) := by decide +kernel
theorem dX1_worthOf_110 : decode cX1_worthOf 110 = .ok (.iconst 4, 1) := by decide +kernel
theorem dX1_worthOf_111 : decode cX1_worthOf 111 = .ok (.imul, 1) := by decide +kernel
theorem dX1_worthOf_112 : decode cX1_worthOf 112 = .ok (.aload_n 0, 1) := by decide +kernel
theorem dX1_worthOf_113 : decode cX1_worthOf 113 = .ok (.getfield 27, 3) := by decide +kernel
theorem dX1_worthOf_116 : decode cX1_worthOf 116 = .ok (.iload 5, 2) := by decide +kernel
theorem dX1_worthOf_118 : decode cX1_worthOf 118 = .ok (.iaload, 1) := by decide +kernel
theorem dX1_worthOf_119 : decode cX1_worthOf 119 = .ok (.iadd, 1) := by decide +kernel
theorem dX1_worthOf_120 : decode cX1_worthOf 120 = .ok (.iaload, 1) := by decide +kernel
theorem dX1_worthOf_121 : decode cX1_worthOf 121 = .ok (.iadd, 1) := by decide +kernel
theorem dX1_worthOf_122 : decode cX1_worthOf 122 = .ok (.istore_n 3, 1) := by decide +kernel
theorem dX1_worthOf_123 : decode cX1_worthOf 123 = .ok (.iinc 4 1, 3) := by decide +kernel
theorem dX1_worthOf_126 : decode cX1_worthOf 126 = .ok (.iinc 5 1, 3) := by decide +kernel
theorem dX1_worthOf_129 : decode cX1_worthOf 129 = .ok (.goto (-59), 3) := by decide +kernel
theorem dX1_worthOf_132 : decode cX1_worthOf 132 = .ok (.iload_n 3, 1) := by decide +kernel
theorem dX1_worthOf_133 : decode cX1_worthOf 133 = .ok (.aload_n 0, 1) := by decide +kernel
theorem dX1_worthOf_134 : decode cX1_worthOf 134 = .ok (.getfield 42, 3) := by decide +kernel
theorem dX1_worthOf_137 : decode cX1_worthOf 137 = .ok (.aload_n 0, 1) := by decide +kernel
theorem dX1_worthOf_138 : decode cX1_worthOf 138 = .ok (.getfield 27, 3) := by decide +kernel
theorem dX1_worthOf_141 : decode cX1_worthOf 141 = .ok (.iload_n 1, 1) := by decide +kernel
theorem dX1_worthOf_142 : decode cX1_worthOf 142 = .ok (.iaload, 1) := by decide +kernel
theorem dX1_worthOf_143 : decode cX1_worthOf 143 = .ok (.aload_n 0, 1) := by decide +kernel
theorem dX1_worthOf_144 : decode cX1_worthOf 144 = .ok (.getfield 30, 3) := by decide +kernel
theorem dX1_worthOf_147 : decode cX1_worthOf 147 = .ok (.iload_n 1, 1) := by decide +kernel
theorem dX1_worthOf_148 : decode cX1_worthOf 148 = .ok (.iaload, 1) := by decide +kernel
theorem dX1_worthOf_149 : decode cX1_worthOf 149 = .ok (.iload_n 2, 1) := by decide +kernel
theorem dX1_worthOf_150 : decode cX1_worthOf 150 = .ok (.iload 4, 2) := by decide +kernel
theorem dX1_worthOf_152 : decode cX1_worthOf 152 = .ok (.invokevirtual 105, 3) := by decide +kernel
theorem dX1_worthOf_155 : decode cX1_worthOf 155 = .ok (.isub, 1) := by decide +kernel
theorem dX1_worthOf_156 : decode cX1_worthOf 156 = .ok (.istore_n 3, 1) := by decide +kernel
theorem dX1_worthOf_157 : decode cX1_worthOf 157 = .ok (.iload_n 3, 1) := by decide +kernel
theorem dX1_worthOf_158 : decode cX1_worthOf 158 = .ok (.aload_n 0, 1) := by decide +kernel
theorem dX1_worthOf_159 : decode cX1_worthOf 159 = .ok (.getfield 42, 3) := by decide +kernel
theorem dX1_worthOf_162 : decode cX1_worthOf 162 = .ok (.getfield 109, 3) := by decide +kernel
theorem dX1_worthOf_165 : decode cX1_worthOf 165 = .ok (.aload_n 0, 1) := by decide +kernel
theorem dX1_worthOf_166 : decode cX1_worthOf 166 = .ok (.getfield 36, 3) := by decide +kernel
theorem dX1_worthOf_169 : decode cX1_worthOf 169 = .ok (.iload_n 1, 1) := by decide +kernel
theorem dX1_worthOf_170 : decode cX1_worthOf 170 = .ok (.iaload, 1) := by decide +kernel
theorem dX1_worthOf_171 : decode cX1_worthOf 171 = .ok (.iload_n 2, 1) := by decide +kernel
theorem dX1_worthOf_172 : decode cX1_worthOf 172 = .ok (.isub, 1) := by decide +kernel
theorem dX1_worthOf_173 : decode cX1_worthOf 173 = .ok (.invokestatic 112, 3) := by decide +kernel
theorem dX1_worthOf_176 : decode cX1_worthOf 176 = .ok (.imul, 1) := by decide +kernel
theorem dX1_worthOf_177 : decode cX1_worthOf 177 = .ok (.isub, 1) := by decide +kernel
theorem dX1_worthOf_178 : decode cX1_worthOf 178 = .ok (.ireturn, 1) := by decide +kernel
theorem dX1_worthOfAll_0 : decode cX1_worthOfAll 0 = .ok (.lconst 0, 1) := by decide +kernel
theorem dX1_worthOfAll_1 : decode cX1_worthOfAll 1 = .ok (.lstore_n 1, 1) := by decide +kernel
theorem dX1_worthOfAll_2 : decode cX1_worthOfAll 2 = .ok (.iconst 0, 1) := by decide +kernel
theorem dX1_worthOfAll_3 : decode cX1_worthOfAll 3 = .ok (.istore_n 3, 1) := by decide +kernel
theorem dX1_worthOfAll_4 : decode cX1_worthOfAll 4 = .ok (.iload_n 3, 1) := by decide +kernel
theorem dX1_worthOfAll_5 : decode cX1_worthOfAll 5 = .ok (.aload_n 0, 1) := by decide +kernel
theorem dX1_worthOfAll_6 : decode cX1_worthOfAll 6 = .ok (.getfield 50, 3) := by decide +kernel
theorem dX1_worthOfAll_9 : decode cX1_worthOfAll 9 = .ok (.if_icmp .ge 24, 3) := by decide +kernel
theorem dX1_worthOfAll_12 : decode cX1_worthOfAll 12 = .ok (.lload_n 1, 1) := by decide +kernel
theorem dX1_worthOfAll_13 : decode cX1_worthOfAll 13 = .ok (.aload_n 0, 1) := by decide +kernel
theorem dX1_worthOfAll_14 : decode cX1_worthOfAll 14 = .ok (.iload_n 3, 1) := by decide +kernel
theorem dX1_worthOfAll_15 : decode cX1_worthOfAll 15 = .ok (.aload_n 0, 1) := by decide +kernel
theorem dX1_worthOfAll_16 : decode cX1_worthOfAll 16 = .ok (.getfield 33, 3) := by decide +kernel
theorem dX1_worthOfAll_19 : decode cX1_worthOfAll 19 = .ok (.iload_n 3, 1) := by decide +kernel
theorem dX1_worthOfAll_20 : decode cX1_worthOfAll 20 = .ok (.iaload, 1) := by decide +kernel
theorem dX1_worthOfAll_21 : decode cX1_worthOfAll 21 = .ok (.invokevirtual 117, 3) := by decide +kernel
theorem dX1_worthOfAll_24 : decode cX1_worthOfAll 24 = .ok (.i2l, 1) := by decide +kernel
theorem dX1_worthOfAll_25 : decode cX1_worthOfAll 25 = .ok (.ladd, 1) := by decide +kernel
theorem dX1_worthOfAll_26 : decode cX1_worthOfAll 26 = .ok (.lstore_n 1, 1) := by decide +kernel
theorem dX1_worthOfAll_27 : decode cX1_worthOfAll 27 = .ok (.iinc 3 1, 3) := by decide +kernel
theorem dX1_worthOfAll_30 : decode cX1_worthOfAll 30 = .ok (.goto (-26), 3) := by decide +kernel
theorem dX1_worthOfAll_33 : decode cX1_worthOfAll 33 = .ok (.lload_n 1, 1) := by decide +kernel
theorem dX1_worthOfAll_34 : decode cX1_worthOfAll 34 = .ok (.lreturn, 1) := by decide +kernel
theorem dX1_leastWorth_0 : decode cX1_leastWorth 0 = .ok (.iconst 0, 1) := by decide +kernel
theorem dX1_leastWorth_1 : decode cX1_leastWorth 1 = .ok (.istore_n 1, 1) := by decide +kernel
theorem dX1_leastWorth_2 : decode cX1_leastWorth 2 = .ok (.iconst 0, 1) := by decide +kernel
theorem dX1_leastWorth_3 : decode cX1_leastWorth 3 = .ok (.istore_n 2, 1) := by decide +kernel
theorem dX1_leastWorth_4 : decode cX1_leastWorth 4 = .ok (.iload_n 2, 1) := by decide +kernel
theorem dX1_leastWorth_5 : decode cX1_leastWorth 5 = .ok (.aload_n 0, 1) := by decide +kernel
theorem dX1_leastWorth_6 : decode cX1_leastWorth 6 = .ok (.getfield 50, 3) := by decide +kernel
theorem dX1_leastWorth_9 : decode cX1_leastWorth 9 = .ok (.if_icmp .ge 32, 3) := by decide +kernel
theorem dX1_leastWorth_12 : decode cX1_leastWorth 12 = .ok (.aload_n 0, 1) := by decide +kernel
theorem dX1_leastWorth_13 : decode cX1_leastWorth 13 = .ok (.iload_n 2, 1) := by decide +kernel
theorem dX1_leastWorth_14 : decode cX1_leastWorth 14 = .ok (.aload_n 0, 1) := by decide +kernel
theorem dX1_leastWorth_15 : decode cX1_leastWorth 15 = .ok (.getfield 33, 3) := by decide +kernel
theorem dX1_leastWorth_18 : decode cX1_leastWorth 18 = .ok (.iload_n 2, 1) := by decide +kernel
theorem dX1_leastWorth_19 : decode cX1_leastWorth 19 = .ok (.iaload, 1) := by decide +kernel
theorem dX1_leastWorth_20 : decode cX1_leastWorth 20 = .ok (.invokevirtual 117, 3) := by decide +kernel
theorem dX1_leastWorth_23 : decode cX1_leastWorth 23 = .ok (.istore_n 3, 1) := by decide +kernel
theorem dX1_leastWorth_24 : decode cX1_leastWorth 24 = .ok (.iload_n 2, 1) := by decide +kernel
theorem dX1_leastWorth_25 : decode cX1_leastWorth 25 = .ok (.ifCond .eq 8, 3) := by decide +kernel
theorem dX1_leastWorth_28 : decode cX1_leastWorth 28 = .ok (.iload_n 3, 1) := by decide +kernel
theorem dX1_leastWorth_29 : decode cX1_leastWorth 29 = .ok (.iload_n 1, 1) := by decide +kernel
theorem dX1_leastWorth_30 : decode cX1_leastWorth 30 = .ok (.if_icmp .ge 5, 3) := by decide +kernel
theorem dX1_leastWorth_33 : decode cX1_leastWorth 33 = .ok (.iload_n 3, 1) := by decide +kernel
theorem dX1_leastWorth_34 : decode cX1_leastWorth 34 = .ok (.istore_n 1, 1) := by decide +kernel
theorem dX1_leastWorth_35 : decode cX1_leastWorth 35 = .ok (.iinc 2 1, 3) := by decide +kernel
theorem dX1_leastWorth_38 : decode cX1_leastWorth 38 = .ok (.goto (-34), 3) := by decide +kernel
theorem dX1_leastWorth_41 : decode cX1_leastWorth 41 = .ok (.iload_n 1, 1) := by decide +kernel
theorem dX1_leastWorth_42 : decode cX1_leastWorth 42 = .ok (.ireturn, 1) := by decide +kernel
theorem dX1_betterTown_0 : decode cX1_betterTown 0 = .ok (.iconst (-1), 1) := by decide +kernel
theorem dX1_betterTown_1 : decode cX1_betterTown 1 = .ok (.istore_n 2, 1) := by decide +kernel
theorem dX1_betterTown_2 : decode cX1_betterTown 2 = .ok (.aload_n 0, 1) := by decide +kernel
theorem dX1_betterTown_3 : decode cX1_betterTown 3 = .ok (.iload_n 1, 1) := by decide +kernel
theorem dX1_betterTown_4 : decode cX1_betterTown 4 = .ok (.aload_n 0, 1) := by decide +kernel
theorem dX1_betterTown_5 : decode cX1_betterTown 5 = .ok (.getfield 33, 3) := by decide +kernel
theorem dX1_betterTown_8 : decode cX1_betterTown 8 = .ok (.iload_n 1, 1) := by decide +kernel
theorem dX1_betterTown_9 : decode cX1_betterTown 9 = .ok (.iaload, 1) := by decide +kernel
theorem dX1_betterTown_10 : decode cX1_betterTown 10 = .ok (.invokevirtual 117, 3) := by decide +kernel
theorem dX1_betterTown_13 : decode cX1_betterTown 13 = .ok (.istore_n 3, 1) := by decide +kernel
theorem dX1_betterTown_14 : decode cX1_betterTown 14 = .ok (.iconst 0, 1) := by decide +kernel
theorem dX1_betterTown_15 : decode cX1_betterTown 15 = .ok (.istore 4, 2) := by decide +kernel
theorem dX1_betterTown_17 : decode cX1_betterTown 17 = .ok (.iload 4, 2) := by decide +kernel
theorem dX1_betterTown_19 : decode cX1_betterTown 19 = .ok (.aload_n 0, 1) := by decide +kernel
theorem dX1_betterTown_20 : decode cX1_betterTown 20 = .ok (.getfield 46, 3) := by decide +kernel
theorem dX1_betterTown_23 : decode cX1_betterTown 23 = .ok (.if_icmp .ge 43, 3) := by decide +kernel
theorem dX1_betterTown_26 : decode cX1_betterTown 26 = .ok (.aload_n 0, 1) := by decide +kernel
theorem dX1_betterTown_27 : decode cX1_betterTown 27 = .ok (.iload_n 1, 1) := by decide +kernel
theorem dX1_betterTown_28 : decode cX1_betterTown 28 = .ok (.iload 4, 2) := by decide +kernel
theorem dX1_betterTown_30 : decode cX1_betterTown 30 = .ok (.invokevirtual 120, 3) := by decide +kernel
theorem dX1_betterTown_33 : decode cX1_betterTown 33 = .ok (.ifCond .ne 6, 3) := by decide +kernel
theorem dX1_betterTown_36 : decode cX1_betterTown 36 = .ok (.goto 24, 3) := by decide +kernel
theorem dX1_betterTown_39 : decode cX1_betterTown 39 = .ok (.aload_n 0, 1) := by decide +kernel
theorem dX1_betterTown_40 : decode cX1_betterTown 40 = .ok (.iload_n 1, 1) := by decide +kernel
theorem dX1_betterTown_41 : decode cX1_betterTown 41 = .ok (.iload 4, 2) := by decide +kernel
theorem dX1_betterTown_43 : decode cX1_betterTown 43 = .ok (.invokevirtual 117, 3) := by decide +kernel
theorem dX1_betterTown_46 : decode cX1_betterTown 46 = .ok (.istore 5, 2) := by decide +kernel
theorem dX1_betterTown_48 : decode cX1_betterTown 48 = .ok (.iload 5, 2) := by decide +kernel
theorem dX1_betterTown_50 : decode cX1_betterTown 50 = .ok (.iload_n 3, 1) := by decide +kernel
theorem dX1_betterTown_51 : decode cX1_betterTown 51 = .ok (.if_icmp .le 9, 3) := by decide +kernel
theorem dX1_betterTown_54 : decode cX1_betterTown 54 = .ok (.iload 5, 2) := by decide +kernel
theorem dX1_betterTown_56 : decode cX1_betterTown 56 = .ok (.istore_n 3, 1) := by decide +kernel
theorem dX1_betterTown_57 : decode cX1_betterTown 57 = .ok (.iload 4, 2) := by decide +kernel
theorem dX1_betterTown_59 : decode cX1_betterTown 59 = .ok (.istore_n 2, 1) := by decide +kernel
theorem dX1_betterTown_60 : decode cX1_betterTown 60 = .ok (.iinc 4 1, 3) := by decide +kernel
theorem dX1_betterTown_63 : decode cX1_betterTown 63 = .ok (.goto (-46), 3) := by decide +kernel
theorem dX1_betterTown_66 : decode cX1_betterTown 66 = .ok (.iload_n 2, 1) := by decide +kernel
theorem dX1_betterTown_67 : decode cX1_betterTown 67 = .ok (.ireturn, 1) := by decide +kernel
theorem dX1_chosenLevel_0 : decode cX1_chosenLevel 0 = .ok (.aload_n 0, 1) := by decide +kernel
theorem dX1_chosenLevel_1 : decode cX1_chosenLevel 1 = .ok (.getfield 39, 3) := by decide +kernel
theorem dX1_chosenLevel_4 : decode cX1_chosenLevel 4 = .ok (.iconst 0, 1) := by decide +kernel
theorem dX1_chosenLevel_5 : decode cX1_chosenLevel 5 = .ok (.invokestatic 124, 3) := by decide +kernel
theorem dX1_chosenLevel_8 : decode cX1_chosenLevel 8 = .ok (.aload_n 0, 1) := by decide +kernel
theorem dX1_chosenLevel_9 : decode cX1_chosenLevel 9 = .ok (.getfield 42, 3) := by decide +kernel
theorem dX1_chosenLevel_12 : decode cX1_chosenLevel 12 = .ok (.getfield 130, 3) := by decide +kernel
theorem dX1_chosenLevel_15 : decode cX1_chosenLevel 15 = .ok (.iconst 2, 1) := by decide +kernel
theorem dX1_chosenLevel_16 : decode cX1_chosenLevel 16 = .ok (.if_icmp .ne 15, 3) := by decide +kernel
theorem dX1_chosenLevel_19 : decode cX1_chosenLevel 19 = .ok (.aload_n 0, 1) := by decide +kernel
theorem dX1_chosenLevel_20 : decode cX1_chosenLevel 20 = .ok (.iload_n 1, 1) := by decide +kernel
theorem dX1_chosenLevel_21 : decode cX1_chosenLevel 21 = .ok (.invokevirtual 133, 3) := by decide +kernel
theorem dX1_chosenLevel_24 : decode cX1_chosenLevel 24 = .ok (.ifCond .eq 7, 3) := by decide +kernel
theorem dX1_chosenLevel_27 : decode cX1_chosenLevel 27 = .ok (.iconst 1, 1) := by decide +kernel
theorem dX1_chosenLevel_28 : decode cX1_chosenLevel 28 = .ok (.goto 4, 3) := by decide +kernel
theorem dX1_chosenLevel_31 : decode cX1_chosenLevel 31 = .ok (.iconst 0, 1) := by decide +kernel
theorem dX1_chosenLevel_32 : decode cX1_chosenLevel 32 = .ok (.istore_n 3, 1) := by decide +kernel
theorem dX1_chosenLevel_33 : decode cX1_chosenLevel 33 = .ok (.iconst 0, 1) := by decide +kernel
theorem dX1_chosenLevel_34 : decode cX1_chosenLevel 34 = .ok (.istore 4, 2) := by decide +kernel
theorem dX1_chosenLevel_36 : decode cX1_chosenLevel 36 = .ok (.iconst 0, 1) := by decide +kernel
theorem dX1_chosenLevel_37 : decode cX1_chosenLevel 37 = .ok (.istore 5, 2) := by decide +kernel
theorem dX1_chosenLevel_39 : decode cX1_chosenLevel 39 = .ok (.iload 5, 2) := by decide +kernel
theorem dX1_chosenLevel_41 : decode cX1_chosenLevel 41 = .ok (.aload_n 0, 1) := by decide +kernel
theorem dX1_chosenLevel_42 : decode cX1_chosenLevel 42 = .ok (.getfield 50, 3) := by decide +kernel
theorem dX1_chosenLevel_45 : decode cX1_chosenLevel 45 = .ok (.if_icmp .ge 55, 3) := by decide +kernel
theorem dX1_chosenLevel_48 : decode cX1_chosenLevel 48 = .ok (.aload_n 0, 1) := by decide +kernel
theorem dX1_chosenLevel_49 : decode cX1_chosenLevel 49 = .ok (.getfield 33, 3) := by decide +kernel
theorem dX1_chosenLevel_52 : decode cX1_chosenLevel 52 = .ok (.iload 5, 2) := by decide +kernel
theorem dX1_chosenLevel_54 : decode cX1_chosenLevel 54 = .ok (.iaload, 1) := by decide +kernel
theorem dX1_chosenLevel_55 : decode cX1_chosenLevel 55 = .ok (.iload_n 1, 1) := by decide +kernel
theorem dX1_chosenLevel_56 : decode cX1_chosenLevel 56 = .ok (.if_icmp .ne 38, 3) := by decide +kernel
theorem dX1_chosenLevel_59 : decode cX1_chosenLevel 59 = .ok (.iload_n 3, 1) := by decide +kernel
theorem dX1_chosenLevel_60 : decode cX1_chosenLevel 60 = .ok (.ifCond .eq 14, 3) := by decide +kernel
theorem dX1_chosenLevel_63 : decode cX1_chosenLevel 63 = .ok (.aload_n 0, 1) := by decide +kernel
theorem dX1_chosenLevel_64 : decode cX1_chosenLevel 64 = .ok (.getfield 36, 3) := by decide +kernel
theorem dX1_chosenLevel_67 : decode cX1_chosenLevel 67 = .ok (.iload 5, 2) := by decide +kernel
theorem dX1_chosenLevel_69 : decode cX1_chosenLevel 69 = .ok (.iaload, 1) := by decide +kernel
theorem dX1_chosenLevel_70 : decode cX1_chosenLevel 70 = .ok (.iload_n 1, 1) := by decide +kernel
theorem dX1_chosenLevel_71 : decode cX1_chosenLevel 71 = .ok (.if_icmp .ne 23, 3) := by decide +kernel
theorem dX1_chosenLevel_74 : decode cX1_chosenLevel 74 = .ok (.aload_n 0, 1) := by decide +kernel
theorem dX1_chosenLevel_75 : decode cX1_chosenLevel 75 = .ok (.getfield 39, 3) := by decide +kernel
theorem dX1_chosenLevel_78 : decode cX1_chosenLevel 78 = .ok (.aload_n 0, 1) := by decide +kernel
theorem dX1_chosenLevel_79 : decode cX1_chosenLevel 79 = .ok (.iload 5, 2) := by decide +kernel
theorem dX1_chosenLevel_81 : decode cX1_chosenLevel 81 = .ok (.iload_n 1, 1) := by decide +kernel
theorem dX1_chosenLevel_82 : decode cX1_chosenLevel 82 = .ok (.iload_n 2, 1) := by decide +kernel
theorem dX1_chosenLevel_83 : decode cX1_chosenLevel 83 = .ok (.invokevirtual 136, 3) := by decide +kernel
theorem dX1_chosenLevel_86 : decode cX1_chosenLevel 86 = .ok (.dup2, 1) := by decide +kernel
theorem dX1_chosenLevel_87 : decode cX1_chosenLevel 87 = .ok (.iaload, 1) := by decide +kernel
theorem dX1_chosenLevel_88 : decode cX1_chosenLevel 88 = .ok (.iconst 1, 1) := by decide +kernel
theorem dX1_chosenLevel_89 : decode cX1_chosenLevel 89 = .ok (.iadd, 1) := by decide +kernel
theorem dX1_chosenLevel_90 : decode cX1_chosenLevel 90 = .ok (.iastore, 1) := by decide +kernel
theorem dX1_chosenLevel_91 : decode cX1_chosenLevel 91 = .ok (.iinc 4 1, 3) := by decide +kernel
theorem dX1_chosenLevel_94 : decode cX1_chosenLevel 94 = .ok (.iinc 5 1, 3) := by decide +kernel
theorem dX1_chosenLevel_97 : decode cX1_chosenLevel 97 = .ok (.goto (-58), 3) := by decide +kernel
theorem dX1_chosenLevel_100 : decode cX1_chosenLevel 100 = .ok (.aload_n 0, 1) := by decide +kernel
theorem dX1_chosenLevel_101 : decode cX1_chosenLevel 101 = .ok (.getfield 42, 3) := by decide +kernel
theorem dX1_chosenLevel_104 : decode cX1_chosenLevel 104 = .ok (.getfield 130, 3) := by decide +kernel
theorem dX1_chosenLevel_107 : decode cX1_chosenLevel 107 = .ok (.iconst 1, 1) := by decide +kernel
theorem dX1_chosenLevel_108 : decode cX1_chosenLevel 108 = .ok (.if_icmp .ne 12, 3) := by decide +kernel
theorem dX1_chosenLevel_111 : decode cX1_chosenLevel 111 = .ok (.aload_n 0, 1) := by decide +kernel
theorem dX1_chosenLevel_112 : decode cX1_chosenLevel 112 = .ok (.iload 4, 2) := by decide +kernel
theorem dX1_chosenLevel_114 : decode cX1_chosenLevel 114 = .ok (.invokevirtual 139, 3) := by decide +kernel
theorem dX1_chosenLevel_117 : decode cX1_chosenLevel 117 = .ok (.goto 7, 3) := by decide +kernel
theorem dX1_chosenLevel_120 : decode cX1_chosenLevel 120 = .ok (.aload_n 0, 1) := by decide +kernel
theorem dX1_chosenLevel_121 : decode cX1_chosenLevel 121 = .ok (.invokevirtual 142, 3) := by decide +kernel
theorem dX1_chosenLevel_124 : decode cX1_chosenLevel 124 = .ok (.ireturn, 1) := by decide +kernel
theorem dX1_hasOldOnes_0 : decode cX1_hasOldOnes 0 = .ok (.iconst 0, 1) := by decide +kernel
theorem dX1_hasOldOnes_1 : decode cX1_hasOldOnes 1 = .ok (.istore_n 2, 1) := by decide +kernel
theorem dX1_hasOldOnes_2 : decode cX1_hasOldOnes 2 = .ok (.iload_n 2, 1) := by decide +kernel
theorem dX1_hasOldOnes_3 : decode cX1_hasOldOnes 3 = .ok (.aload_n 0, 1) := by decide +kernel
theorem dX1_hasOldOnes_4 : decode cX1_hasOldOnes 4 = .ok (.getfield 50, 3) := by decide +kernel
theorem dX1_hasOldOnes_7 : decode cX1_hasOldOnes 7 = .ok (.if_icmp .ge 31, 3) := by decide +kernel
theorem dX1_hasOldOnes_10 : decode cX1_hasOldOnes 10 = .ok (.aload_n 0, 1) := by decide +kernel
theorem dX1_hasOldOnes_11 : decode cX1_hasOldOnes 11 = .ok (.getfield 33, 3) := by decide +kernel
theorem dX1_hasOldOnes_14 : decode cX1_hasOldOnes 14 = .ok (.iload_n 2, 1) := by decide +kernel
theorem dX1_hasOldOnes_15 : decode cX1_hasOldOnes 15 = .ok (.iaload, 1) := by decide +kernel
theorem dX1_hasOldOnes_16 : decode cX1_hasOldOnes 16 = .ok (.iload_n 1, 1) := by decide +kernel
theorem dX1_hasOldOnes_17 : decode cX1_hasOldOnes 17 = .ok (.if_icmp .ne 15, 3) := by decide +kernel
theorem dX1_hasOldOnes_20 : decode cX1_hasOldOnes 20 = .ok (.aload_n 0, 1) := by decide +kernel
theorem dX1_hasOldOnes_21 : decode cX1_hasOldOnes 21 = .ok (.getfield 36, 3) := by decide +kernel
theorem dX1_hasOldOnes_24 : decode cX1_hasOldOnes 24 = .ok (.iload_n 2, 1) := by decide +kernel
theorem dX1_hasOldOnes_25 : decode cX1_hasOldOnes 25 = .ok (.iaload, 1) := by decide +kernel
theorem dX1_hasOldOnes_26 : decode cX1_hasOldOnes 26 = .ok (.iload_n 1, 1) := by decide +kernel
theorem dX1_hasOldOnes_27 : decode cX1_hasOldOnes 27 = .ok (.if_icmp .ne 5, 3) := by decide +kernel
theorem dX1_hasOldOnes_30 : decode cX1_hasOldOnes 30 = .ok (.iconst 1, 1) := by decide +kernel
theorem dX1_hasOldOnes_31 : decode cX1_hasOldOnes 31 = .ok (.ireturn, 1) := by decide +kernel
theorem dX1_hasOldOnes_32 : decode cX1_hasOldOnes 32 = .ok (.iinc 2 1, 3) := by decide +kernel
theorem dX1_hasOldOnes_35 : decode cX1_hasOldOnes 35 = .ok (.goto (-33), 3) := by decide +kernel
theorem dX1_hasOldOnes_38 : decode cX1_hasOldOnes 38 = .ok (.iconst 0, 1) := by decide +kernel
theorem dX1_hasOldOnes_39 : decode cX1_hasOldOnes 39 = .ok (.ireturn, 1) := by decide +kernel
theorem dX1_wantedLevel_0 : decode cX1_wantedLevel 0 = .ok (.aload_n 0, 1) := by decide +kernel
theorem dX1_wantedLevel_1 : decode cX1_wantedLevel 1 = .ok (.getfield 42, 3) := by decide +kernel
theorem dX1_wantedLevel_4 : decode cX1_wantedLevel 4 = .ok (.getfield 99, 3) := by decide +kernel
theorem dX1_wantedLevel_7 : decode cX1_wantedLevel 7 = .ok (.aload_n 0, 1) := by decide +kernel
theorem dX1_wantedLevel_8 : decode cX1_wantedLevel 8 = .ok (.getfield 27, 3) := by decide +kernel
theorem dX1_wantedLevel_11 : decode cX1_wantedLevel 11 = .ok (.iload_n 1, 1) := by decide +kernel
theorem dX1_wantedLevel_12 : decode cX1_wantedLevel 12 = .ok (.iaload, 1) := by decide +kernel
theorem dX1_wantedLevel_13 : decode cX1_wantedLevel 13 = .ok (.iconst 3, 1) := by decide +kernel
theorem dX1_wantedLevel_14 : decode cX1_wantedLevel 14 = .ok (.imul, 1) := by decide +kernel
theorem dX1_wantedLevel_15 : decode cX1_wantedLevel 15 = .ok (.iload_n 3, 1) := by decide +kernel
theorem dX1_wantedLevel_16 : decode cX1_wantedLevel 16 = .ok (.iadd, 1) := by decide +kernel
theorem dX1_wantedLevel_17 : decode cX1_wantedLevel 17 = .ok (.iaload, 1) := by decide +kernel
theorem dX1_wantedLevel_18 : decode cX1_wantedLevel 18 = .ok (.istore 4, 2) := by decide +kernel
theorem dX1_wantedLevel_20 : decode cX1_wantedLevel 20 = .ok (.aload_n 0, 1) := by decide +kernel
theorem dX1_wantedLevel_21 : decode cX1_wantedLevel 21 = .ok (.iload_n 2, 1) := by decide +kernel
theorem dX1_wantedLevel_22 : decode cX1_wantedLevel 22 = .ok (.iload_n 1, 1) := by decide +kernel
theorem dX1_wantedLevel_23 : decode cX1_wantedLevel 23 = .ok (.invokevirtual 83, 3) := by decide +kernel
theorem dX1_wantedLevel_26 : decode cX1_wantedLevel 26 = .ok (.istore 5, 2) := by decide +kernel
theorem dX1_wantedLevel_28 : decode cX1_wantedLevel 28 = .ok (.aload_n 0, 1) := by decide +kernel
theorem dX1_wantedLevel_29 : decode cX1_wantedLevel 29 = .ok (.iload_n 1, 1) := by decide +kernel
theorem dX1_wantedLevel_30 : decode cX1_wantedLevel 30 = .ok (.iload 5, 2) := by decide +kernel
theorem dX1_wantedLevel_32 : decode cX1_wantedLevel 32 = .ok (.invokevirtual 79, 3) := by decide +kernel
theorem dX1_wantedLevel_35 : decode cX1_wantedLevel 35 = .ok (.istore 6, 2) := by decide +kernel
theorem dX1_wantedLevel_37 : decode cX1_wantedLevel 37 = .ok (.aload_n 0, 1) := by decide +kernel
theorem dX1_wantedLevel_38 : decode cX1_wantedLevel 38 = .ok (.iload_n 2, 1) := by decide +kernel
theorem dX1_wantedLevel_39 : decode cX1_wantedLevel 39 = .ok (.iload_n 1, 1) := by decide +kernel
theorem dX1_wantedLevel_40 : decode cX1_wantedLevel 40 = .ok (.iload 5, 2) := by decide +kernel
theorem dX1_wantedLevel_42 : decode cX1_wantedLevel 42 = .ok (.invokevirtual 89, 3) := by decide +kernel
theorem dX1_wantedLevel_45 : decode cX1_wantedLevel 45 = .ok (.istore 7, 2) := by decide +kernel
theorem dX1_wantedLevel_47 : decode cX1_wantedLevel 47 = .ok (.iload_n 2, 1) := by decide +kernel
theorem dX1_wantedLevel_48 : decode cX1_wantedLevel 48 = .ok (.iconst 3, 1) := by decide +kernel
theorem dX1_wantedLevel_49 : decode cX1_wantedLevel 49 = .ok (.imul, 1) := by decide +kernel
theorem dX1_wantedLevel_50 : decode cX1_wantedLevel 50 = .ok (.iload_n 3, 1) := by decide +kernel
theorem dX1_wantedLevel_51 : decode cX1_wantedLevel 51 = .ok (.iadd, 1) := by decide +kernel
theorem dX1_wantedLevel_52 : decode cX1_wantedLevel 52 = .ok (.istore 8, 2) := by decide +kernel
theorem dX1_wantedLevel_54 : decode cX1_wantedLevel 54 = .ok (.aload_n 0, 1) := by decide +kernel
theorem dX1_wantedLevel_55 : decode cX1_wantedLevel 55 = .ok (.getfield 15, 3) := by decide +kernel
theorem dX1_wantedLevel_58 : decode cX1_wantedLevel 58 = .ok (.iload 8, 2) := by decide +kernel
theorem dX1_wantedLevel_60 : decode cX1_wantedLevel 60 = .ok (.iaload, 1) := by decide +kernel
theorem dX1_wantedLevel_61 : decode cX1_wantedLevel 61 = .ok (.istore 9, 2) := by decide +kernel
theorem dX1_wantedLevel_63 : decode cX1_wantedLevel 63 = .ok (.iconst 0, 1) := by decide +kernel
theorem dX1_wantedLevel_64 : decode cX1_wantedLevel 64 = .ok (.istore 10, 2) := by decide +kernel
theorem dX1_wantedLevel_66 : decode cX1_wantedLevel 66 = .ok (.iconst 0, 1) := by decide +kernel
theorem dX1_wantedLevel_67 : decode cX1_wantedLevel 67 = .ok (.istore 11, 2) := by decide +kernel
theorem dX1_wantedLevel_69 : decode cX1_wantedLevel 69 = .ok (.iconst 0, 1) := by decide +kernel
theorem dX1_wantedLevel_70 : decode cX1_wantedLevel 70 = .ok (.istore 12, 2) := by decide +kernel
theorem dX1_wantedLevel_72 : decode cX1_wantedLevel 72 = .ok (.iload 12, 2) := by decide +kernel
theorem dX1_wantedLevel_74 : decode cX1_wantedLevel 74 = .ok (.bipush 6, 2) := by decide +kernel
theorem dX1_wantedLevel_76 : decode cX1_wantedLevel 76 = .ok (.if_icmp .ge 58, 3) := by decide +kernel
theorem dX1_wantedLevel_79 : decode cX1_wantedLevel 79 = .ok (.aload_n 0, 1) := by decide +kernel
theorem dX1_wantedLevel_80 : decode cX1_wantedLevel 80 = .ok (.getfield 15, 3) := by decide +kernel
theorem dX1_wantedLevel_83 : decode cX1_wantedLevel 83 = .ok (.iload 8, 2) := by decide +kernel
theorem dX1_wantedLevel_85 : decode cX1_wantedLevel 85 = .ok (.iload 12, 2) := by decide +kernel
theorem dX1_wantedLevel_87 : decode cX1_wantedLevel 87 = .ok (.iastore, 1) := by decide +kernel
theorem dX1_wantedLevel_88 : decode cX1_wantedLevel 88 = .ok (.iload 4, 2) := by decide +kernel
theorem dX1_wantedLevel_90 : decode cX1_wantedLevel 90 = .ok (.iload 12, 2) := by decide +kernel
theorem dX1_wantedLevel_92 : decode cX1_wantedLevel 92 = .ok (.imul, 1) := by decide +kernel
theorem dX1_wantedLevel_93 : decode cX1_wantedLevel 93 = .ok (.aload_n 0, 1) := by decide +kernel
theorem dX1_wantedLevel_94 : decode cX1_wantedLevel 94 = .ok (.iload_n 2, 1) := by decide +kernel
theorem dX1_wantedLevel_95 : decode cX1_wantedLevel 95 = .ok (.invokevirtual 86, 3) := by decide +kernel
theorem dX1_wantedLevel_98 : decode cX1_wantedLevel 98 = .ok (.iload 6, 2) := by decide +kernel
theorem dX1_wantedLevel_100 : decode cX1_wantedLevel 100 = .ok (.iload 7, 2) := by decide +kernel
theorem dX1_wantedLevel_102 : decode cX1_wantedLevel 102 = .ok (.invokestatic 93, 3) := by decide +kernel
theorem dX1_wantedLevel_105 : decode cX1_wantedLevel 105 = .ok (.isub, 1) := by decide +kernel
theorem dX1_wantedLevel_106 : decode cX1_wantedLevel 106 = .ok (.istore 13, 2) := by decide +kernel
theorem dX1_wantedLevel_108 : decode cX1_wantedLevel 108 = .ok (.iload 12, 2) := by decide +kernel
theorem dX1_wantedLevel_110 : decode cX1_wantedLevel 110 = .ok (.ifCond .eq 10, 3) := by decide +kernel
theorem dX1_wantedLevel_113 : decode cX1_wantedLevel 113 = .ok (.iload 13, 2) := by decide +kernel
theorem dX1_wantedLevel_115 : decode cX1_wantedLevel 115 = .ok (.iload 11, 2) := by decide +kernel
theorem dX1_wantedLevel_117 : decode cX1_wantedLevel 117 = .ok (.if_icmp .le 11, 3) := by decide +kernel
theorem dX1_wantedLevel_120 : decode cX1_wantedLevel 120 = .ok (.iload 13, 2) := by decide +kernel
theorem dX1_wantedLevel_122 : decode cX1_wantedLevel 122 = .ok (.istore 11, 2) := by decide +kernel
theorem dX1_wantedLevel_124 : decode cX1_wantedLevel 124 = .ok (.iload 12, 2) := by decide +kernel
theorem dX1_wantedLevel_126 : decode cX1_wantedLevel 126 = .ok (.istore 10, 2) := by decide +kernel
theorem dX1_wantedLevel_128 : decode cX1_wantedLevel 128 = .ok (.iinc 12 1, 3) := by decide +kernel
theorem dX1_wantedLevel_131 : decode cX1_wantedLevel 131 = .ok (.goto (-59), 3) := by decide +kernel
theorem dX1_wantedLevel_134 : decode cX1_wantedLevel 134 = .ok (.aload_n 0, 1) := by decide +kernel
theorem dX1_wantedLevel_135 : decode cX1_wantedLevel 135 = .ok (.getfield 15, 3) := by decide +kernel
theorem dX1_wantedLevel_138 : decode cX1_wantedLevel 138 = .ok (.iload 8, 2) := by decide +kernel
theorem dX1_wantedLevel_140 : decode cX1_wantedLevel 140 = .ok (.iload 9, 2) := by decide +kernel
theorem dX1_wantedLevel_142 : decode cX1_wantedLevel 142 = .ok (.iastore, 1) := by decide +kernel
theorem dX1_wantedLevel_143 : decode cX1_wantedLevel 143 = .ok (.iload 10, 2) := by decide +kernel
theorem dX1_wantedLevel_145 : decode cX1_wantedLevel 145 = .ok (.ireturn, 1) := by decide +kernel
theorem dX1_commonestWant_0 : decode cX1_commonestWant 0 = .ok (.iconst 0, 1) := by decide +kernel
theorem dX1_commonestWant_1 : decode cX1_commonestWant 1 = .ok (.istore_n 1, 1) := by decide +kernel
theorem dX1_commonestWant_2 : decode cX1_commonestWant 2 = .ok (.iconst 1, 1) := by decide +kernel
theorem dX1_commonestWant_3 : decode cX1_commonestWant 3 = .ok (.istore_n 2, 1) := by decide +kernel
theorem dX1_commonestWant_4 : decode cX1_commonestWant 4 = .ok (.iload_n 2, 1) := by decide +kernel
theorem dX1_commonestWant_5 : decode cX1_commonestWant 5 = .ok (.bipush 6, 2) := by decide +kernel
theorem dX1_commonestWant_7 : decode cX1_commonestWant 7 = .ok (.if_icmp .ge 26, 3) := by decide +kernel
theorem dX1_commonestWant_10 : decode cX1_commonestWant 10 = .ok (.aload_n 0, 1) := by decide +kernel
theorem dX1_commonestWant_11 : decode cX1_commonestWant 11 = .ok (.getfield 39, 3) := by decide +kernel
theorem dX1_commonestWant_14 : decode cX1_commonestWant 14 = .ok (.iload_n 2, 1) := by decide +kernel
theorem dX1_commonestWant_15 : decode cX1_commonestWant 15 = .ok (.iaload, 1) := by decide +kernel
theorem dX1_commonestWant_16 : decode cX1_commonestWant 16 = .ok (.aload_n 0, 1) := by decide +kernel
theorem dX1_commonestWant_17 : decode cX1_commonestWant 17 = .ok (.getfield 39, 3) := by decide +kernel
theorem dX1_commonestWant_20 : decode cX1_commonestWant 20 = .ok (.iload_n 1, 1) := by decide +kernel
theorem dX1_commonestWant_21 : decode cX1_commonestWant 21 = .ok (.iaload, 1) := by decide +kernel
theorem dX1_commonestWant_22 : decode cX1_commonestWant 22 = .ok (.if_icmp .le 5, 3) := by decide +kernel
theorem dX1_commonestWant_25 : decode cX1_commonestWant 25 = .ok (.iload_n 2, 1) := by decide +kernel
theorem dX1_commonestWant_26 : decode cX1_commonestWant 26 = .ok (.istore_n 1, 1) := by decide +kernel
theorem dX1_commonestWant_27 : decode cX1_commonestWant 27 = .ok (.iinc 2 1, 3) := by decide +kernel
theorem dX1_commonestWant_30 : decode cX1_commonestWant 30 = .ok (.goto (-26), 3) := by decide +kernel
theorem dX1_commonestWant_33 : decode cX1_commonestWant 33 = .ok (.iload_n 1, 1) := by decide +kernel
theorem dX1_commonestWant_34 : decode cX1_commonestWant 34 = .ok (.ireturn, 1) := by decide +kernel
theorem dX1_middleWant_0 : decode cX1_middleWant 0 = .ok (.iconst 0, 1) := by decide +kernel
theorem dX1_middleWant_1 : decode cX1_middleWant 1 = .ok (.istore_n 2, 1) := by decide +kernel
theorem dX1_middleWant_2 : decode cX1_middleWant 2 = .ok (.iconst 0, 1) := by decide +kernel
theorem dX1_middleWant_3 : decode cX1_middleWant 3 = .ok (.istore_n 3, 1) := by decide +kernel
theorem dX1_middleWant_4 : decode cX1_middleWant 4 = .ok (.iload_n 3, 1) := by decide +kernel
theorem dX1_middleWant_5 : decode cX1_middleWant 5 = .ok (.bipush 6, 2) := by decide +kernel
theorem dX1_middleWant_7 : decode cX1_middleWant 7 = .ok (.if_icmp .ge 27, 3) := by decide +kernel
theorem dX1_middleWant_10 : decode cX1_middleWant 10 = .ok (.iload_n 2, 1) := by decide +kernel
theorem dX1_middleWant_11 : decode cX1_middleWant 11 = .ok (.aload_n 0, 1) := by decide +kernel
theorem dX1_middleWant_12 : decode cX1_middleWant 12 = .ok (.getfield 39, 3) := by decide +kernel
theorem dX1_middleWant_15 : decode cX1_middleWant 15 = .ok (.iload_n 3, 1) := by decide +kernel
theorem dX1_middleWant_16 : decode cX1_middleWant 16 = .ok (.iaload, 1) := by decide +kernel
theorem dX1_middleWant_17 : decode cX1_middleWant 17 = .ok (.iadd, 1) := by decide +kernel
theorem dX1_middleWant_18 : decode cX1_middleWant 18 = .ok (.istore_n 2, 1) := by decide +kernel
theorem dX1_middleWant_19 : decode cX1_middleWant 19 = .ok (.iconst 2, 1) := by decide +kernel
theorem dX1_middleWant_20 : decode cX1_middleWant 20 = .ok (.iload_n 2, 1) := by decide +kernel
theorem dX1_middleWant_21 : decode cX1_middleWant 21 = .ok (.imul, 1) := by decide +kernel
theorem dX1_middleWant_22 : decode cX1_middleWant 22 = .ok (.iload_n 1, 1) := by decide +kernel
theorem dX1_middleWant_23 : decode cX1_middleWant 23 = .ok (.if_icmp .lt 5, 3) := by decide +kernel
theorem dX1_middleWant_26 : decode cX1_middleWant 26 = .ok (.iload_n 3, 1) := by decide +kernel
theorem dX1_middleWant_27 : decode cX1_middleWant 27 = .ok (.ireturn, 1) := by decide +kernel
theorem dX1_middleWant_28 : decode cX1_middleWant 28 = .ok (.iinc 3 1, 3) := by decide +kernel
theorem dX1_middleWant_31 : decode cX1_middleWant 31 = .ok (.goto (-27), 3) := by decide +kernel
theorem dX1_middleWant_34 : decode cX1_middleWant 34 = .ok (.iconst 0, 1) := by decide +kernel
theorem dX1_middleWant_35 : decode cX1_middleWant 35 = .ok (.ireturn, 1) := by decide +kernel
theorem dX1_vote_0 : decode cX1_vote 0 = .ok (.iconst 0, 1) := by decide +kernel
theorem dX1_vote_1 : decode cX1_vote 1 = .ok (.istore_n 2, 1) := by decide +kernel
theorem dX1_vote_2 : decode cX1_vote 2 = .ok (.iconst 0, 1) := by decide +kernel
theorem dX1_vote_3 : decode cX1_vote 3 = .ok (.istore_n 3, 1) := by decide +kernel
theorem dX1_vote_4 : decode cX1_vote 4 = .ok (.iload_n 3, 1) := by decide +kernel
theorem dX1_vote_5 : decode cX1_vote 5 = .ok (.iconst 3, 1) := by decide +kernel
theorem dX1_vote_6 : decode cX1_vote 6 = .ok (.if_icmp .ge 47, 3) := by decide +kernel
theorem dX1_vote_9 : decode cX1_vote 9 = .ok (.aload_n 0, 1) := by decide +kernel
theorem dX1_vote_10 : decode cX1_vote 10 = .ok (.iload_n 1, 1) := by decide +kernel
theorem dX1_vote_11 : decode cX1_vote 11 = .ok (.iload_n 3, 1) := by decide +kernel
theorem dX1_vote_12 : decode cX1_vote 12 = .ok (.invokevirtual 146, 3) := by decide +kernel
theorem dX1_vote_15 : decode cX1_vote 15 = .ok (.istore 4, 2) := by decide +kernel
theorem dX1_vote_17 : decode cX1_vote 17 = .ok (.iload 4, 2) := by decide +kernel
theorem dX1_vote_19 : decode cX1_vote 19 = .ok (.aload_n 0, 1) := by decide +kernel
theorem dX1_vote_20 : decode cX1_vote 20 = .ok (.getfield 15, 3) := by decide +kernel
theorem dX1_vote_23 : decode cX1_vote 23 = .ok (.iload_n 1, 1) := by decide +kernel
theorem dX1_vote_24 : decode cX1_vote 24 = .ok (.iconst 3, 1) := by decide +kernel
theorem dX1_vote_25 : decode cX1_vote 25 = .ok (.imul, 1) := by decide +kernel
theorem dX1_vote_26 : decode cX1_vote 26 = .ok (.iload_n 3, 1) := by decide +kernel
theorem dX1_vote_27 : decode cX1_vote 27 = .ok (.iadd, 1) := by decide +kernel
theorem dX1_vote_28 : decode cX1_vote 28 = .ok (.iaload, 1) := by decide +kernel
theorem dX1_vote_29 : decode cX1_vote 29 = .ok (.if_icmp .eq 18, 3) := by decide +kernel
theorem dX1_vote_32 : decode cX1_vote 32 = .ok (.aload_n 0, 1) := by decide +kernel
theorem dX1_vote_33 : decode cX1_vote 33 = .ok (.getfield 15, 3) := by decide +kernel
theorem dX1_vote_36 : decode cX1_vote 36 = .ok (.iload_n 1, 1) := by decide +kernel
theorem dX1_vote_37 : decode cX1_vote 37 = .ok (.iconst 3, 1) := by decide +kernel
theorem dX1_vote_38 : decode cX1_vote 38 = .ok (.imul, 1) := by decide +kernel
theorem dX1_vote_39 : decode cX1_vote 39 = .ok (.iload_n 3, 1) := by decide +kernel
theorem dX1_vote_40 : decode cX1_vote 40 = .ok (.iadd, 1) := by decide +kernel
theorem dX1_vote_41 : decode cX1_vote 41 = .ok (.iload 4, 2) := by decide +kernel
theorem dX1_vote_43 : decode cX1_vote 43 = .ok (.iastore, 1) := by decide +kernel
theorem dX1_vote_44 : decode cX1_vote 44 = .ok (.iinc 2 1, 3) := by decide +kernel
theorem dX1_vote_47 : decode cX1_vote 47 = .ok (.iinc 3 1, 3) := by decide +kernel
theorem dX1_vote_50 : decode cX1_vote 50 = .ok (.goto (-46), 3) := by decide +kernel
theorem dX1_vote_53 : decode cX1_vote 53 = .ok (.iload_n 2, 1) := by decide +kernel
theorem dX1_vote_54 : decode cX1_vote 54 = .ok (.ireturn, 1) := by decide +kernel
theorem dX1_hasTooManyWays_0 : decode cX1_hasTooManyWays 0 = .ok (.aload_n 0, 1) := by decide +kernel
theorem dX1_hasTooManyWays_1 : decode cX1_hasTooManyWays 1 = .ok (.getfield 50, 3) := by decide +kernel
theorem dX1_hasTooManyWays_4 : decode cX1_hasTooManyWays 4 = .ok (.iconst 5, 1) := by decide +kernel
theorem dX1_hasTooManyWays_5 : decode cX1_hasTooManyWays 5 = .ok (.if_icmp .gt 11, 3) := by decide +kernel
theorem dX1_hasTooManyWays_8 : decode cX1_hasTooManyWays 8 = .ok (.aload_n 0, 1) := by decide +kernel
theorem dX1_hasTooManyWays_9 : decode cX1_hasTooManyWays 9 = .ok (.getfield 46, 3) := by decide +kernel
theorem dX1_hasTooManyWays_12 : decode cX1_hasTooManyWays 12 = .ok (.iconst 3, 1) := by decide +kernel
theorem dX1_hasTooManyWays_13 : decode cX1_hasTooManyWays 13 = .ok (.if_icmp .le 7, 3) := by decide +kernel
theorem dX1_hasTooManyWays_16 : decode cX1_hasTooManyWays 16 = .ok (.iconst 1, 1) := by decide +kernel
theorem dX1_hasTooManyWays_17 : decode cX1_hasTooManyWays 17 = .ok (.goto 4, 3) := by decide +kernel
theorem dX1_hasTooManyWays_20 : decode cX1_hasTooManyWays 20 = .ok (.iconst 0, 1) := by decide +kernel
theorem dX1_hasTooManyWays_21 : decode cX1_hasTooManyWays 21 = .ok (.ireturn, 1) := by decide +kernel
theorem dX1_ways_0 : decode cX1_ways 0 = .ok (.iconst 1, 1) := by decide +kernel
theorem dX1_ways_1 : decode cX1_ways 1 = .ok (.istore_n 1, 1) := by decide +kernel
theorem dX1_ways_2 : decode cX1_ways 2 = .ok (.iconst 0, 1) := by decide +kernel
theorem dX1_ways_3 : decode cX1_ways 3 = .ok (.istore_n 2, 1) := by decide +kernel
theorem dX1_ways_4 : decode cX1_ways 4 = .ok (.iload_n 2, 1) := by decide +kernel
theorem dX1_ways_5 : decode cX1_ways 5 = .ok (.aload_n 0, 1) := by decide +kernel
theorem dX1_ways_6 : decode cX1_ways 6 = .ok (.getfield 50, 3) := by decide +kernel
theorem dX1_ways_9 : decode cX1_ways 9 = .ok (.if_icmp .ge 16, 3) := by decide +kernel
theorem dX1_ways_12 : decode cX1_ways 12 = .ok (.iload_n 1, 1) := by decide +kernel
theorem dX1_ways_13 : decode cX1_ways 13 = .ok (.aload_n 0, 1) := by decide +kernel
theorem dX1_ways_14 : decode cX1_ways 14 = .ok (.getfield 46, 3) := by decide +kernel
theorem dX1_ways_17 : decode cX1_ways 17 = .ok (.imul, 1) := by decide +kernel
theorem dX1_ways_18 : decode cX1_ways 18 = .ok (.istore_n 1, 1) := by decide +kernel
theorem dX1_ways_19 : decode cX1_ways 19 = .ok (.iinc 2 1, 3) := by decide +kernel
theorem dX1_ways_22 : decode cX1_ways 22 = .ok (.goto (-18), 3) := by decide +kernel
theorem dX1_ways_25 : decode cX1_ways 25 = .ok (.iload_n 1, 1) := by decide +kernel
theorem dX1_ways_26 : decode cX1_ways 26 = .ok (.ireturn, 1) := by decide +kernel
theorem dX1_settle_0 : decode cX1_settle 0 = .ok (.aload_n 0, 1) := by decide +kernel
theorem dX1_settle_1 : decode cX1_settle 1 = .ok (.getfield 46, 3) := by decide +kernel
theorem dX1_settle_4 : decode cX1_settle 4 = .ok (.ifCond .ne 16, 3) := by decide +kernel
theorem dX1_settle_7 : decode cX1_settle 7 = .ok (.aload_n 0, 1) := by decide +kernel
theorem dX1_settle_8 : decode cX1_settle 8 = .ok (.getfield 50, 3) := by decide +kernel
theorem dX1_settle_11 : decode cX1_settle 11 = .ok (.ifCond .ne 7, 3) := by decide +kernel
theorem dX1_settle_14 : decode cX1_settle 14 = .ok (.iconst 1, 1) := by decide +kernel
theorem dX1_settle_15 : decode cX1_settle 15 = .ok (.goto 4, 3) := by decide +kernel
theorem dX1_settle_18 : decode cX1_settle 18 = .ok (.iconst 0, 1) := by decide +kernel
theorem dX1_settle_19 : decode cX1_settle 19 = .ok (.ireturn, 1) := by decide +kernel
theorem dX1_settle_20 : decode cX1_settle 20 = .ok (.iload_n 1, 1) := by decide +kernel
theorem dX1_settle_21 : decode cX1_settle 21 = .ok (.istore_n 2, 1) := by decide +kernel
theorem dX1_settle_22 : decode cX1_settle 22 = .ok (.aload_n 0, 1) := by decide +kernel
theorem dX1_settle_23 : decode cX1_settle 23 = .ok (.getfield 50, 3) := by decide +kernel
theorem dX1_settle_26 : decode cX1_settle 26 = .ok (.iconst 1, 1) := by decide +kernel
theorem dX1_settle_27 : decode cX1_settle 27 = .ok (.isub, 1) := by decide +kernel
theorem dX1_settle_28 : decode cX1_settle 28 = .ok (.istore_n 3, 1) := by decide +kernel
theorem dX1_settle_29 : decode cX1_settle 29 = .ok (.iload_n 3, 1) := by decide +kernel
theorem dX1_settle_30 : decode cX1_settle 30 = .ok (.ifCond .lt 28, 3) := by decide +kernel
theorem dX1_settle_33 : decode cX1_settle 33 = .ok (.aload_n 0, 1) := by decide +kernel
theorem dX1_settle_34 : decode cX1_settle 34 = .ok (.getfield 33, 3) := by decide +kernel
theorem dX1_settle_37 : decode cX1_settle 37 = .ok (.iload_n 3, 1) := by decide +kernel
theorem dX1_settle_38 : decode cX1_settle 38 = .ok (.iload_n 2, 1) := by decide +kernel
theorem dX1_settle_39 : decode cX1_settle 39 = .ok (.aload_n 0, 1) := by decide +kernel
theorem dX1_settle_40 : decode cX1_settle 40 = .ok (.getfield 46, 3) := by decide +kernel
theorem dX1_settle_43 : decode cX1_settle 43 = .ok (.irem, 1) := by decide +kernel
theorem dX1_settle_44 : decode cX1_settle 44 = .ok (.iastore, 1) := by decide +kernel
theorem dX1_settle_45 : decode cX1_settle 45 = .ok (.iload_n 2, 1) := by decide +kernel
theorem dX1_settle_46 : decode cX1_settle 46 = .ok (.aload_n 0, 1) := by decide +kernel
theorem dX1_settle_47 : decode cX1_settle 47 = .ok (.getfield 46, 3) := by decide +kernel
theorem dX1_settle_50 : decode cX1_settle 50 = .ok (.idiv, 1) := by decide +kernel
theorem dX1_settle_51 : decode cX1_settle 51 = .ok (.istore_n 2, 1) := by decide +kernel
theorem dX1_settle_52 : decode cX1_settle 52 = .ok (.iinc 3 (-1), 3) := by decide +kernel
theorem dX1_settle_55 : decode cX1_settle 55 = .ok (.goto (-26), 3) := by decide +kernel
theorem dX1_settle_58 : decode cX1_settle 58 = .ok (.aload_n 0, 1) := by decide +kernel
theorem dX1_settle_59 : decode cX1_settle 59 = .ok (.invokevirtual 149, 3) := by decide +kernel
theorem dX1_settle_62 : decode cX1_settle 62 = .ok (.ireturn, 1) := by decide +kernel
theorem dX1_soughtTown_0 : decode cX1_soughtTown 0 = .ok (.iconst 0, 1) := by decide +kernel
theorem dX1_soughtTown_1 : decode cX1_soughtTown 1 = .ok (.istore_n 1, 1) := by decide +kernel
theorem dX1_soughtTown_2 : decode cX1_soughtTown 2 = .ok (.iload_n 1, 1) := by decide +kernel
theorem dX1_soughtTown_3 : decode cX1_soughtTown 3 = .ok (.aload_n 0, 1) := by decide +kernel
theorem dX1_soughtTown_4 : decode cX1_soughtTown 4 = .ok (.getfield 46, 3) := by decide +kernel
theorem dX1_soughtTown_7 : decode cX1_soughtTown 7 = .ok (.if_icmp .ge 91, 3) := by decide +kernel
theorem dX1_soughtTown_10 : decode cX1_soughtTown 10 = .ok (.aload_n 0, 1) := by decide +kernel
theorem dX1_soughtTown_11 : decode cX1_soughtTown 11 = .ok (.iload_n 1, 1) := by decide +kernel
theorem dX1_soughtTown_12 : decode cX1_soughtTown 12 = .ok (.invokevirtual 59, 3) := by decide +kernel
theorem dX1_soughtTown_15 : decode cX1_soughtTown 15 = .ok (.istore_n 2, 1) := by decide +kernel
theorem dX1_soughtTown_16 : decode cX1_soughtTown 16 = .ok (.iconst 0, 1) := by decide +kernel
theorem dX1_soughtTown_17 : decode cX1_soughtTown 17 = .ok (.istore_n 3, 1) := by decide +kernel
theorem dX1_soughtTown_18 : decode cX1_soughtTown 18 = .ok (.iload_n 3, 1) := by decide +kernel
theorem dX1_soughtTown_19 : decode cX1_soughtTown 19 = .ok (.aload_n 0, 1) := by decide +kernel
theorem dX1_soughtTown_20 : decode cX1_soughtTown 20 = .ok (.getfield 50, 3) := by decide +kernel
theorem dX1_soughtTown_23 : decode cX1_soughtTown 23 = .ok (.if_icmp .ge 57, 3) := by decide +kernel
theorem dX1_soughtTown_26 : decode cX1_soughtTown 26 = .ok (.aload_n 0, 1) := by decide +kernel
theorem dX1_soughtTown_27 : decode cX1_soughtTown 27 = .ok (.getfield 33, 3) := by decide +kernel
theorem dX1_soughtTown_30 : decode cX1_soughtTown 30 = .ok (.iload_n 3, 1) := by decide +kernel
theorem dX1_soughtTown_31 : decode cX1_soughtTown 31 = .ok (.iaload, 1) := by decide +kernel
theorem dX1_soughtTown_32 : decode cX1_soughtTown 32 = .ok (.iload_n 1, 1) := by decide +kernel
theorem dX1_soughtTown_33 : decode cX1_soughtTown 33 = .ok (.if_icmp .eq 41, 3) := by decide +kernel
theorem dX1_soughtTown_36 : decode cX1_soughtTown 36 = .ok (.aload_n 0, 1) := by decide +kernel
theorem dX1_soughtTown_37 : decode cX1_soughtTown 37 = .ok (.getfield 30, 3) := by decide +kernel
theorem dX1_soughtTown_40 : decode cX1_soughtTown 40 = .ok (.iload_n 3, 1) := by decide +kernel
theorem dX1_soughtTown_41 : decode cX1_soughtTown 41 = .ok (.iaload, 1) := by decide +kernel
theorem dX1_soughtTown_42 : decode cX1_soughtTown 42 = .ok (.aload_n 0, 1) := by decide +kernel
theorem dX1_soughtTown_43 : decode cX1_soughtTown 43 = .ok (.getfield 21, 3) := by decide +kernel
theorem dX1_soughtTown_46 : decode cX1_soughtTown 46 = .ok (.iload_n 1, 1) := by decide +kernel
theorem dX1_soughtTown_47 : decode cX1_soughtTown 47 = .ok (.iaload, 1) := by decide +kernel
theorem dX1_soughtTown_48 : decode cX1_soughtTown 48 = .ok (.if_icmp .lt 26, 3) := by decide +kernel
theorem dX1_soughtTown_51 : decode cX1_soughtTown 51 = .ok (.aload_n 0, 1) := by decide +kernel
theorem dX1_soughtTown_52 : decode cX1_soughtTown 52 = .ok (.iload_n 3, 1) := by decide +kernel
theorem dX1_soughtTown_53 : decode cX1_soughtTown 53 = .ok (.iload_n 1, 1) := by decide +kernel
theorem dX1_soughtTown_54 : decode cX1_soughtTown 54 = .ok (.invokevirtual 117, 3) := by decide +kernel
theorem dX1_soughtTown_57 : decode cX1_soughtTown 57 = .ok (.aload_n 0, 1) := by decide +kernel
theorem dX1_soughtTown_58 : decode cX1_soughtTown 58 = .ok (.iload_n 3, 1) := by decide +kernel
theorem dX1_soughtTown_59 : decode cX1_soughtTown 59 = .ok (.aload_n 0, 1) := by decide +kernel
theorem dX1_soughtTown_60 : decode cX1_soughtTown 60 = .ok (.getfield 33, 3) := by decide +kernel
theorem dX1_soughtTown_63 : decode cX1_soughtTown 63 = .ok (.iload_n 3, 1) := by decide +kernel
theorem dX1_soughtTown_64 : decode cX1_soughtTown 64 = .ok (.iaload, 1) := by decide +kernel
theorem dX1_soughtTown_65 : decode cX1_soughtTown 65 = .ok (.invokevirtual 117, 3) := by decide +kernel
theorem dX1_soughtTown_68 : decode cX1_soughtTown 68 = .ok (.if_icmp .le 6, 3) := by decide +kernel
theorem dX1_soughtTown_71 : decode cX1_soughtTown 71 = .ok (.iinc 2 1, 3) := by decide +kernel
theorem dX1_soughtTown_74 : decode cX1_soughtTown 74 = .ok (.iinc 3 1, 3) := by decide +kernel
theorem dX1_soughtTown_77 : decode cX1_soughtTown 77 = .ok (.goto (-59), 3) := by decide +kernel
theorem dX1_soughtTown_80 : decode cX1_soughtTown 80 = .ok (.iload_n 2, 1) := by decide +kernel
theorem dX1_soughtTown_81 : decode cX1_soughtTown 81 = .ok (.aload_n 0, 1) := by decide +kernel
theorem dX1_soughtTown_82 : decode cX1_soughtTown 82 = .ok (.getfield 9, 3) := by decide +kernel
theorem dX1_soughtTown_85 : decode cX1_soughtTown 85 = .ok (.iload_n 1, 1) := by decide +kernel
theorem dX1_soughtTown_86 : decode cX1_soughtTown 86 = .ok (.iaload, 1) := by decide +kernel
theorem dX1_soughtTown_87 : decode cX1_soughtTown 87 = .ok (.if_icmp .le 5, 3) := by decide +kernel
theorem dX1_soughtTown_90 : decode cX1_soughtTown 90 = .ok (.iload_n 1, 1) := by decide +kernel
theorem dX1_soughtTown_91 : decode cX1_soughtTown 91 = .ok (.ireturn, 1) := by decide +kernel
theorem dX1_soughtTown_92 : decode cX1_soughtTown 92 = .ok (.iinc 1 1, 3) := by decide +kernel
theorem dX1_soughtTown_95 : decode cX1_soughtTown 95 = .ok (.goto (-93), 3) := by decide +kernel
theorem dX1_soughtTown_98 : decode cX1_soughtTown 98 = .ok (.iconst (-1), 1) := by decide +kernel
theorem dX1_soughtTown_99 : decode cX1_soughtTown 99 = .ok (.ireturn, 1) := by decide +kernel
theorem dX1_pairs_0 : decode cX1_pairs 0 = .ok (.iconst 0, 1) := by decide +kernel
theorem dX1_pairs_1 : decode cX1_pairs 1 = .ok (.istore_n 1, 1) := by decide +kernel
theorem dX1_pairs_2 : decode cX1_pairs 2 = .ok (.iconst 0, 1) := by decide +kernel
theorem dX1_pairs_3 : decode cX1_pairs 3 = .ok (.istore_n 2, 1) := by decide +kernel
theorem dX1_pairs_4 : decode cX1_pairs 4 = .ok (.iload_n 2, 1) := by decide +kernel
theorem dX1_pairs_5 : decode cX1_pairs 5 = .ok (.aload_n 0, 1) := by decide +kernel
theorem dX1_pairs_6 : decode cX1_pairs 6 = .ok (.getfield 50, 3) := by decide +kernel
theorem dX1_pairs_9 : decode cX1_pairs 9 = .ok (.if_icmp .ge 55, 3) := by decide +kernel
theorem dX1_pairs_12 : decode cX1_pairs 12 = .ok (.iconst 0, 1) := by decide +kernel
theorem dX1_pairs_13 : decode cX1_pairs 13 = .ok (.istore_n 3, 1) := by decide +kernel
theorem dX1_pairs_14 : decode cX1_pairs 14 = .ok (.iload_n 3, 1) := by decide +kernel
theorem dX1_pairs_15 : decode cX1_pairs 15 = .ok (.iload_n 2, 1) := by decide +kernel
theorem dX1_pairs_16 : decode cX1_pairs 16 = .ok (.if_icmp .ge 42, 3) := by decide +kernel
theorem dX1_pairs_19 : decode cX1_pairs 19 = .ok (.aload_n 0, 1) := by decide +kernel
theorem dX1_pairs_20 : decode cX1_pairs 20 = .ok (.getfield 27, 3) := by decide +kernel
theorem dX1_pairs_23 : decode cX1_pairs 23 = .ok (.iload_n 2, 1) := by decide +kernel
theorem dX1_pairs_24 : decode cX1_pairs 24 = .ok (.iaload, 1) := by decide +kernel
theorem dX1_pairs_25 : decode cX1_pairs 25 = .ok (.aload_n 0, 1) := by decide +kernel
theorem dX1_pairs_26 : decode cX1_pairs 26 = .ok (.getfield 27, 3) := by decide +kernel
theorem dX1_pairs_29 : decode cX1_pairs 29 = .ok (.iload_n 3, 1) := by decide +kernel
theorem dX1_pairs_30 : decode cX1_pairs 30 = .ok (.iaload, 1) := by decide +kernel
theorem dX1_pairs_31 : decode cX1_pairs 31 = .ok (.if_icmp .ne 21, 3) := by decide +kernel
theorem dX1_pairs_34 : decode cX1_pairs 34 = .ok (.aload_n 0, 1) := by decide +kernel
theorem dX1_pairs_35 : decode cX1_pairs 35 = .ok (.getfield 33, 3) := by decide +kernel
theorem dX1_pairs_38 : decode cX1_pairs 38 = .ok (.iload_n 2, 1) := by decide +kernel
theorem dX1_pairs_39 : decode cX1_pairs 39 = .ok (.iaload, 1) := by decide +kernel
theorem dX1_pairs_40 : decode cX1_pairs 40 = .ok (.aload_n 0, 1) := by decide +kernel
theorem dX1_pairs_41 : decode cX1_pairs 41 = .ok (.getfield 33, 3) := by decide +kernel
theorem dX1_pairs_44 : decode cX1_pairs 44 = .ok (.iload_n 3, 1) := by decide +kernel
theorem dX1_pairs_45 : decode cX1_pairs 45 = .ok (.iaload, 1) := by decide +kernel
theorem dX1_pairs_46 : decode cX1_pairs 46 = .ok (.if_icmp .ne 6, 3) := by decide +kernel
theorem dX1_pairs_49 : decode cX1_pairs 49 = .ok (.iinc 1 1, 3) := by decide +kernel
theorem dX1_pairs_52 : decode cX1_pairs 52 = .ok (.iinc 3 1, 3) := by decide +kernel
theorem dX1_pairs_55 : decode cX1_pairs 55 = .ok (.goto (-41), 3) := by decide +kernel
theorem dX1_pairs_58 : decode cX1_pairs 58 = .ok (.iinc 2 1, 3) := by decide +kernel
theorem dX1_pairs_61 : decode cX1_pairs 61 = .ok (.goto (-57), 3) := by decide +kernel
theorem dX1_pairs_64 : decode cX1_pairs 64 = .ok (.iload_n 1, 1) := by decide +kernel
theorem dX1_pairs_65 : decode cX1_pairs 65 = .ok (.ireturn, 1) := by decide +kernel
theorem dX1_doubledSort_0 : decode cX1_doubledSort 0 = .ok (.iconst 0, 1) := by decide +kernel
theorem dX1_doubledSort_1 : decode cX1_doubledSort 1 = .ok (.istore_n 2, 1) := by decide +kernel
theorem dX1_doubledSort_2 : decode cX1_doubledSort 2 = .ok (.iload_n 2, 1) := by decide +kernel
theorem dX1_doubledSort_3 : decode cX1_doubledSort 3 = .ok (.iconst 4, 1) := by decide +kernel
theorem dX1_doubledSort_4 : decode cX1_doubledSort 4 = .ok (.if_icmp .ge 61, 3) := by decide +kernel
theorem dX1_doubledSort_7 : decode cX1_doubledSort 7 = .ok (.iconst 0, 1) := by decide +kernel
theorem dX1_doubledSort_8 : decode cX1_doubledSort 8 = .ok (.istore_n 3, 1) := by decide +kernel
theorem dX1_doubledSort_9 : decode cX1_doubledSort 9 = .ok (.iconst 0, 1) := by decide +kernel
theorem dX1_doubledSort_10 : decode cX1_doubledSort 10 = .ok (.istore 4, 2) := by decide +kernel
theorem dX1_doubledSort_12 : decode cX1_doubledSort 12 = .ok (.iload 4, 2) := by decide +kernel
theorem dX1_doubledSort_14 : decode cX1_doubledSort 14 = .ok (.aload_n 0, 1) := by decide +kernel
theorem dX1_doubledSort_15 : decode cX1_doubledSort 15 = .ok (.getfield 50, 3) := by decide +kernel
theorem dX1_doubledSort_18 : decode cX1_doubledSort 18 = .ok (.if_icmp .ge 34, 3) := by decide +kernel
theorem dX1_doubledSort_21 : decode cX1_doubledSort 21 = .ok (.aload_n 0, 1) := by decide +kernel
theorem dX1_doubledSort_22 : decode cX1_doubledSort 22 = .ok (.getfield 33, 3) := by decide +kernel
theorem dX1_doubledSort_25 : decode cX1_doubledSort 25 = .ok (.iload 4, 2) := by decide +kernel
theorem dX1_doubledSort_27 : decode cX1_doubledSort 27 = .ok (.iaload, 1) := by decide +kernel
theorem dX1_doubledSort_28 : decode cX1_doubledSort 28 = .ok (.iload_n 1, 1) := by decide +kernel
theorem dX1_doubledSort_29 : decode cX1_doubledSort 29 = .ok (.if_icmp .ne 17, 3) := by decide +kernel
theorem dX1_doubledSort_32 : decode cX1_doubledSort 32 = .ok (.aload_n 0, 1) := by decide +kernel
theorem dX1_doubledSort_33 : decode cX1_doubledSort 33 = .ok (.getfield 27, 3) := by decide +kernel
theorem dX1_doubledSort_36 : decode cX1_doubledSort 36 = .ok (.iload 4, 2) := by decide +kernel
theorem dX1_doubledSort_38 : decode cX1_doubledSort 38 = .ok (.iaload, 1) := by decide +kernel
theorem dX1_doubledSort_39 : decode cX1_doubledSort 39 = .ok (.iload_n 2, 1) := by decide +kernel
theorem dX1_doubledSort_40 : decode cX1_doubledSort 40 = .ok (.if_icmp .ne 6, 3) := by decide +kernel
theorem dX1_doubledSort_43 : decode cX1_doubledSort 43 = .ok (.iinc 3 1, 3) := by decide +kernel
theorem dX1_doubledSort_46 : decode cX1_doubledSort 46 = .ok (.iinc 4 1, 3) := by decide +kernel
theorem dX1_doubledSort_49 : decode cX1_doubledSort 49 = .ok (.goto (-37), 3) := by decide +kernel
theorem dX1_doubledSort_52 : decode cX1_doubledSort 52 = .ok (.iload_n 3, 1) := by decide +kernel
theorem dX1_doubledSort_53 : decode cX1_doubledSort 53 = .ok (.iconst 2, 1) := by decide +kernel
theorem dX1_doubledSort_54 : decode cX1_doubledSort 54 = .ok (.if_icmp .lt 5, 3) := by decide +kernel
theorem dX1_doubledSort_57 : decode cX1_doubledSort 57 = .ok (.iload_n 2, 1) := by decide +kernel
theorem dX1_doubledSort_58 : decode cX1_doubledSort 58 = .ok (.ireturn, 1) := by decide +kernel
theorem dX1_doubledSort_59 : decode cX1_doubledSort 59 = .ok (.iinc 2 1, 3) := by decide +kernel
theorem dX1_doubledSort_62 : decode cX1_doubledSort 62 = .ok (.goto (-60), 3) := by decide +kernel
theorem dX1_doubledSort_65 : decode cX1_doubledSort 65 = .ok (.iconst (-1), 1) := by decide +kernel
theorem dX1_doubledSort_66 : decode cX1_doubledSort 66 = .ok (.ireturn, 1) := by decide +kernel
theorem dX1_othersDiffer_0 : decode cX1_othersDiffer 0 = .ok (.iconst 0, 1) := by decide +kernel
theorem dX1_othersDiffer_1 : decode cX1_othersDiffer 1 = .ok (.istore_n 3, 1) := by decide +kernel
theorem dX1_othersDiffer_2 : decode cX1_othersDiffer 2 = .ok (.iload_n 3, 1) := by decide +kernel
theorem dX1_othersDiffer_3 : decode cX1_othersDiffer 3 = .ok (.aload_n 0, 1) := by decide +kernel
theorem dX1_othersDiffer_4 : decode cX1_othersDiffer 4 = .ok (.getfield 50, 3) := by decide +kernel
theorem dX1_othersDiffer_7 : decode cX1_othersDiffer 7 = .ok (.if_icmp .ge 31, 3) := by decide +kernel
theorem dX1_othersDiffer_10 : decode cX1_othersDiffer 10 = .ok (.iload_n 3, 1) := by decide +kernel
theorem dX1_othersDiffer_11 : decode cX1_othersDiffer 11 = .ok (.iload_n 2, 1) := by decide +kernel
theorem dX1_othersDiffer_12 : decode cX1_othersDiffer 12 = .ok (.if_icmp .eq 20, 3) := by decide +kernel
theorem dX1_othersDiffer_15 : decode cX1_othersDiffer 15 = .ok (.aload_n 0, 1) := by decide +kernel
theorem dX1_othersDiffer_16 : decode cX1_othersDiffer 16 = .ok (.getfield 33, 3) := by decide +kernel
theorem dX1_othersDiffer_19 : decode cX1_othersDiffer 19 = .ok (.iload_n 3, 1) := by decide +kernel
theorem dX1_othersDiffer_20 : decode cX1_othersDiffer 20 = .ok (.iaload, 1) := by decide +kernel
theorem dX1_othersDiffer_21 : decode cX1_othersDiffer 21 = .ok (.aload_n 1, 1) := by decide +kernel
theorem dX1_othersDiffer_22 : decode cX1_othersDiffer 22 = .ok (.getfield 33, 3) := by decide +kernel
theorem dX1_othersDiffer_25 : decode cX1_othersDiffer 25 = .ok (.iload_n 3, 1) := by decide +kernel
theorem dX1_othersDiffer_26 : decode cX1_othersDiffer 26 = .ok (.iaload, 1) := by decide +kernel
theorem dX1_othersDiffer_27 : decode cX1_othersDiffer 27 = .ok (.if_icmp .eq 5, 3) := by decide +kernel
theorem dX1_othersDiffer_30 : decode cX1_othersDiffer 30 = .ok (.iconst 1, 1) := by decide +kernel
theorem dX1_othersDiffer_31 : decode cX1_othersDiffer 31 = .ok (.ireturn, 1) := by decide +kernel
theorem dX1_othersDiffer_32 : decode cX1_othersDiffer 32 = .ok (.iinc 3 1, 3) := by decide +kernel
theorem dX1_othersDiffer_35 : decode cX1_othersDiffer 35 = .ok (.goto (-33), 3) := by decide +kernel
theorem dX1_othersDiffer_38 : decode cX1_othersDiffer 38 = .ok (.iconst 0, 1) := by decide +kernel
theorem dX1_othersDiffer_39 : decode cX1_othersDiffer 39 = .ok (.ireturn, 1) := by decide +kernel
theorem dX1_imprint_0 : decode cX1_imprint 0 = .ok (.lconst 0, 1) := by decide +kernel
theorem dX1_imprint_1 : decode cX1_imprint 1 = .ok (.lstore_n 1, 1) := by decide +kernel
theorem dX1_imprint_2 : decode cX1_imprint 2 = .ok (.iconst 0, 1) := by decide +kernel
theorem dX1_imprint_3 : decode cX1_imprint 3 = .ok (.istore_n 3, 1) := by decide +kernel
theorem dX1_imprint_4 : decode cX1_imprint 4 = .ok (.iload_n 3, 1) := by decide +kernel
theorem dX1_imprint_5 : decode cX1_imprint 5 = .ok (.aload_n 0, 1) := by decide +kernel
theorem dX1_imprint_6 : decode cX1_imprint 6 = .ok (.getfield 50, 3) := by decide +kernel
theorem dX1_imprint_9 : decode cX1_imprint 9 = .ok (.if_icmp .ge 21, 3) := by decide +kernel
theorem dX1_imprint_12 : decode cX1_imprint 12 = .ok (.lload_n 1, 1) := by decide +kernel
theorem dX1_imprint_13 : decode cX1_imprint 13 = .ok (.iconst 2, 1) := by decide +kernel
theorem dX1_imprint_14 : decode cX1_imprint 14 = .ok (.lshl, 1) := by decide +kernel
theorem dX1_imprint_15 : decode cX1_imprint 15 = .ok (.aload_n 0, 1) := by decide +kernel
theorem dX1_imprint_16 : decode cX1_imprint 16 = .ok (.getfield 33, 3) := by decide +kernel
theorem dX1_imprint_19 : decode cX1_imprint 19 = .ok (.iload_n 3, 1) := by decide +kernel
theorem dX1_imprint_20 : decode cX1_imprint 20 = .ok (.iaload, 1) := by decide +kernel
theorem dX1_imprint_21 : decode cX1_imprint 21 = .ok (.i2l, 1) := by decide +kernel
theorem dX1_imprint_22 : decode cX1_imprint 22 = .ok (.lor, 1) := by decide +kernel
theorem dX1_imprint_23 : decode cX1_imprint 23 = .ok (.lstore_n 1, 1) := by decide +kernel
theorem dX1_imprint_24 : decode cX1_imprint 24 = .ok (.iinc 3 1, 3) := by decide +kernel
theorem dX1_imprint_27 : decode cX1_imprint 27 = .ok (.goto (-23), 3) := by decide +kernel
theorem dX1_imprint_30 : decode cX1_imprint 30 = .ok (.iconst 0, 1) := by decide +kernel
theorem dX1_imprint_31 : decode cX1_imprint 31 = .ok (.istore_n 3, 1) := by decide +kernel
theorem dX1_imprint_32 : decode cX1_imprint 32 = .ok (.iload_n 3, 1) := by decide +kernel
theorem dX1_imprint_33 : decode cX1_imprint 33 = .ok (.bipush 12, 2) := by decide +kernel
theorem dX1_imprint_35 : decode cX1_imprint 35 = .ok (.if_icmp .ge 21, 3) := by decide +kernel
theorem dX1_imprint_38 : decode cX1_imprint 38 = .ok (.lload_n 1, 1) := by decide +kernel
theorem dX1_imprint_39 : decode cX1_imprint 39 = .ok (.iconst 3, 1) := by decide +kernel
theorem dX1_imprint_40 : decode cX1_imprint 40 = .ok (.lshl, 1) := by decide +kernel
theorem dX1_imprint_41 : decode cX1_imprint 41 = .ok (.aload_n 0, 1) := by decide +kernel
theorem dX1_imprint_42 : decode cX1_imprint 42 = .ok (.getfield 15, 3) := by decide +kernel
theorem dX1_imprint_45 : decode cX1_imprint 45 = .ok (.iload_n 3, 1) := by decide +kernel
theorem dX1_imprint_46 : decode cX1_imprint 46 = .ok (.iaload, 1) := by decide +kernel
theorem dX1_imprint_47 : decode cX1_imprint 47 = .ok (.i2l, 1) := by decide +kernel
theorem dX1_imprint_48 : decode cX1_imprint 48 = .ok (.lor, 1) := by decide +kernel
theorem dX1_imprint_49 : decode cX1_imprint 49 = .ok (.lstore_n 1, 1) := by decide +kernel
theorem dX1_imprint_50 : decode cX1_imprint 50 = .ok (.iinc 3 1, 3) := by decide +kernel
theorem dX1_imprint_53 : decode cX1_imprint 53 = .ok (.goto (-21), 3) := by decide +kernel
theorem dX1_imprint_56 : decode cX1_imprint 56 = .ok (.lload_n 1, 1) := by decide +kernel
theorem dX1_imprint_57 : decode cX1_imprint 57 = .ok (.lreturn, 1) := by decide +kernel
theorem dX2_init_0 : decode cX2_init 0 = .ok (.aload_n 0, 1) := by decide +kernel
theorem dX2_init_1 : decode cX2_init 1 = .ok (.invokespecial 3, 3) := by decide +kernel
theorem dX2_init_4 : decode cX2_init 4 = .ok (.aload_n 0, 1) := by decide +kernel
theorem dX2_init_5 : decode cX2_init 5 = .ok (.iconst 4, 1) := by decide +kernel
theorem dX2_init_6 : decode cX2_init 6 = .ok (.newarray .int, 2) := by decide +kernel
theorem dX2_init_8 : decode cX2_init 8 = .ok (.putfield 9, 3) := by decide +kernel
theorem dX2_init_11 : decode cX2_init 11 = .ok (.aload_n 0, 1) := by decide +kernel
theorem dX2_init_12 : decode cX2_init 12 = .ok (.bipush 16, 2) := by decide +kernel
theorem dX2_init_14 : decode cX2_init 14 = .ok (.newarray .int, 2) := by decide +kernel
theorem dX2_init_16 : decode cX2_init 16 = .ok (.putfield 15, 3) := by decide +kernel
theorem dX2_init_19 : decode cX2_init 19 = .ok (.return_, 1) := by decide +kernel
theorem dX2_ofAll_0 : decode cX2_ofAll 0 = .ok (.iconst 1, 1) := by decide +kernel
theorem dX2_ofAll_1 : decode cX2_ofAll 1 = .ok (.istore_n 2, 1) := by decide +kernel
theorem dX2_ofAll_2 : decode cX2_ofAll 2 = .ok (.iconst 2, 1) := by decide +kernel
theorem dX2_ofAll_3 : decode cX2_ofAll 3 = .ok (.istore_n 3, 1) := by decide +kernel
theorem dX2_ofAll_4 : decode cX2_ofAll 4 = .ok (.iload_n 3, 1) := by decide +kernel
theorem dX2_ofAll_5 : decode cX2_ofAll 5 = .ok (.aload_n 1, 1) := by decide +kernel
theorem dX2_ofAll_6 : decode cX2_ofAll 6 = .ok (.getfield 18, 3) := by decide +kernel
theorem dX2_ofAll_9 : decode cX2_ofAll 9 = .ok (.if_icmp .gt 13, 3) := by decide +kernel
theorem dX2_ofAll_12 : decode cX2_ofAll 12 = .ok (.iload_n 2, 1) := by decide +kernel
theorem dX2_ofAll_13 : decode cX2_ofAll 13 = .ok (.iload_n 3, 1) := by decide +kernel
theorem dX2_ofAll_14 : decode cX2_ofAll 14 = .ok (.imul, 1) := by decide +kernel
theorem dX2_ofAll_15 : decode cX2_ofAll 15 = .ok (.istore_n 2, 1) := by decide +kernel
theorem dX2_ofAll_16 : decode cX2_ofAll 16 = .ok (.iinc 3 1, 3) := by decide +kernel
theorem dX2_ofAll_19 : decode cX2_ofAll 19 = .ok (.goto (-15), 3) := by decide +kernel
theorem dX2_ofAll_22 : decode cX2_ofAll 22 = .ok (.iload_n 2, 1) := by decide +kernel
theorem dX2_ofAll_23 : decode cX2_ofAll 23 = .ok (.ireturn, 1) := by decide +kernel
theorem dX2_asSorted_0 : decode cX2_asSorted 0 = .ok (.aload_n 0, 1) := by decide +kernel
theorem dX2_asSorted_1 : decode cX2_asSorted 1 = .ok (.getfield 9, 3) := by decide +kernel
theorem dX2_asSorted_4 : decode cX2_asSorted 4 = .ok (.iconst 0, 1) := by decide +kernel
theorem dX2_asSorted_5 : decode cX2_asSorted 5 = .ok (.invokestatic 24, 3) := by decide +kernel
theorem dX2_asSorted_8 : decode cX2_asSorted 8 = .ok (.aload_n 0, 1) := by decide +kernel
theorem dX2_asSorted_9 : decode cX2_asSorted 9 = .ok (.getfield 15, 3) := by decide +kernel
theorem dX2_asSorted_12 : decode cX2_asSorted 12 = .ok (.iconst 0, 1) := by decide +kernel
theorem dX2_asSorted_13 : decode cX2_asSorted 13 = .ok (.invokestatic 24, 3) := by decide +kernel
theorem dX2_asSorted_16 : decode cX2_asSorted 16 = .ok (.iconst 0, 1) := by decide +kernel
theorem dX2_asSorted_17 : decode cX2_asSorted 17 = .ok (.istore_n 2, 1) := by decide +kernel
theorem dX2_asSorted_18 : decode cX2_asSorted 18 = .ok (.iload_n 2, 1) := by decide +kernel
theorem dX2_asSorted_19 : decode cX2_asSorted 19 = .ok (.aload_n 1, 1) := by decide +kernel
theorem dX2_asSorted_20 : decode cX2_asSorted 20 = .ok (.getfield 18, 3) := by decide +kernel
theorem dX2_asSorted_23 : decode cX2_asSorted 23 = .ok (.if_icmp .ge 24, 3) := by decide +kernel
theorem dX2_asSorted_26 : decode cX2_asSorted 26 = .ok (.aload_n 0, 1) := by decide +kernel
theorem dX2_asSorted_27 : decode cX2_asSorted 27 = .ok (.getfield 9, 3) := by decide +kernel
theorem dX2_asSorted_30 : decode cX2_asSorted 30 = .ok (.aload_n 1, 1) := by decide +kernel
theorem dX2_asSorted_31 : decode cX2_asSorted 31 = .ok (.getfield 30, 3) := by decide +kernel
theorem dX2_asSorted_34 : decode cX2_asSorted 34 = .ok (.iload_n 2, 1) := by decide +kernel
theorem dX2_asSorted_35 : decode cX2_asSorted 35 = .ok (.iaload, 1) := by decide +kernel
theorem dX2_asSorted_36 : decode cX2_asSorted 36 = .ok (.dup2, 1) := by decide +kernel
theorem dX2_asSorted_37 : decode cX2_asSorted 37 = .ok (.iaload, 1) := by decide +kernel
theorem dX2_asSorted_38 : decode cX2_asSorted 38 = .ok (.iconst 1, 1) := by decide +kernel
theorem dX2_asSorted_39 : decode cX2_asSorted 39 = .ok (.iadd, 1) := by decide +kernel
theorem dX2_asSorted_40 : decode cX2_asSorted 40 = .ok (.iastore, 1) := by decide +kernel
theorem dX2_asSorted_41 : decode cX2_asSorted 41 = .ok (.iinc 2 1, 3) := by decide +kernel
theorem dX2_asSorted_44 : decode cX2_asSorted 44 = .ok (.goto (-26), 3) := by decide +kernel
theorem dX2_asSorted_47 : decode cX2_asSorted 47 = .ok (.aload_n 0, 1) := by decide +kernel
theorem dX2_asSorted_48 : decode cX2_asSorted 48 = .ok (.aload_n 1, 1) := by decide +kernel
theorem dX2_asSorted_49 : decode cX2_asSorted 49 = .ok (.iconst 0, 1) := by decide +kernel
theorem dX2_asSorted_50 : decode cX2_asSorted 50 = .ok (.aload_n 1, 1) := by decide +kernel
theorem dX2_asSorted_51 : decode cX2_asSorted 51 = .ok (.invokevirtual 33, 3) := by decide +kernel
theorem dX2_asSorted_54 : decode cX2_asSorted 54 = .ok (.invokevirtual 37, 3) := by decide +kernel
theorem dX2_asSorted_57 : decode cX2_asSorted 57 = .ok (.ireturn, 1) := by decide +kernel
theorem dX2_ways_0 : decode cX2_ways 0 = .ok (.iload_n 2, 1) := by decide +kernel
theorem dX2_ways_1 : decode cX2_ways 1 = .ok (.aload_n 1, 1) := by decide +kernel
theorem dX2_ways_2 : decode cX2_ways 2 = .ok (.getfield 18, 3) := by decide +kernel
theorem dX2_ways_5 : decode cX2_ways 5 = .ok (.if_icmp .lt 13, 3) := by decide +kernel
theorem dX2_ways_8 : decode cX2_ways 8 = .ok (.iload_n 3, 1) := by decide +kernel
theorem dX2_ways_9 : decode cX2_ways 9 = .ok (.ifCond .gt 7, 3) := by decide +kernel
theorem dX2_ways_12 : decode cX2_ways 12 = .ok (.iconst 1, 1) := by decide +kernel
theorem dX2_ways_13 : decode cX2_ways 13 = .ok (.goto 4, 3) := by decide +kernel
theorem dX2_ways_16 : decode cX2_ways 16 = .ok (.iconst 0, 1) := by decide +kernel
theorem dX2_ways_17 : decode cX2_ways 17 = .ok (.ireturn, 1) := by decide +kernel
theorem dX2_ways_18 : decode cX2_ways 18 = .ok (.iconst 0, 1) := by decide +kernel
theorem dX2_ways_19 : decode cX2_ways 19 = .ok (.istore 4, 2) := by decide +kernel
theorem dX2_ways_21 : decode cX2_ways 21 = .ok (.iconst 0, 1) := by decide +kernel
theorem dX2_ways_22 : decode cX2_ways 22 = .ok (.istore 5, 2) := by decide +kernel
theorem dX2_ways_24 : decode cX2_ways 24 = .ok (.iload 5, 2) := by decide +kernel
theorem dX2_ways_26 : decode cX2_ways 26 = .ok (.iconst 4, 1) := by decide +kernel
theorem dX2_ways_27 : decode cX2_ways 27 = .ok (.if_icmp .ge 105, 3) := by decide +kernel
theorem dX2_ways_30 : decode cX2_ways 30 = .ok (.aload_n 0, 1) := by decide +kernel
theorem dX2_ways_31 : decode cX2_ways 31 = .ok (.getfield 9, 3) := by decide +kernel
theorem dX2_ways_34 : decode cX2_ways 34 = .ok (.iload 5, 2) := by decide +kernel
theorem dX2_ways_36 : decode cX2_ways 36 = .ok (.iaload, 1) := by decide +kernel
theorem dX2_ways_37 : decode cX2_ways 37 = .ok (.ifCond .ne 6, 3) := by decide +kernel
theorem dX2_ways_40 : decode cX2_ways 40 = .ok (.goto 86, 3) := by decide +kernel
theorem dX2_ways_43 : decode cX2_ways 43 = .ok (.aload_n 0, 1) := by decide +kernel
theorem dX2_ways_44 : decode cX2_ways 44 = .ok (.getfield 9, 3) := by decide +kernel
theorem dX2_ways_47 : decode cX2_ways 47 = .ok (.iload 5, 2) := by decide +kernel
theorem dX2_ways_49 : decode cX2_ways 49 = .ok (.dup2, 1) := by decide +kernel
theorem dX2_ways_50 : decode cX2_ways 50 = .ok (.iaload, 1) := by decide +kernel
theorem dX2_ways_51 : decode cX2_ways 51 = .ok (.dup_x2, 1) := by decide +kernel
theorem dX2_ways_52 : decode cX2_ways 52 = .ok (.iconst 1, 1) := by decide +kernel
theorem dX2_ways_53 : decode cX2_ways 53 = .ok (.isub, 1) := by decide +kernel
theorem dX2_ways_54 : decode cX2_ways 54 = .ok (.iastore, 1) := by decide +kernel
theorem dX2_ways_55 : decode cX2_ways 55 = .ok (.istore 6, 2) := by decide +kernel
theorem dX2_ways_57 : decode cX2_ways 57 = .ok (.aload_n 1, 1) := by decide +kernel
theorem dX2_ways_58 : decode cX2_ways 58 = .ok (.getfield 41, 3) := by decide +kernel
theorem dX2_ways_61 : decode cX2_ways 61 = .ok (.iload_n 2, 1) := by decide +kernel
theorem dX2_ways_62 : decode cX2_ways 62 = .ok (.iaload, 1) := by decide +kernel
theorem dX2_ways_63 : decode cX2_ways 63 = .ok (.iconst 4, 1) := by decide +kernel
theorem dX2_ways_64 : decode cX2_ways 64 = .ok (.imul, 1) := by decide +kernel
theorem dX2_ways_65 : decode cX2_ways 65 = .ok (.iload 5, 2) := by decide +kernel
theorem dX2_ways_67 : decode cX2_ways 67 = .ok (.iadd, 1) := by decide +kernel
theorem dX2_ways_68 : decode cX2_ways 68 = .ok (.istore 7, 2) := by decide +kernel
theorem dX2_ways_70 : decode cX2_ways 70 = .ok (.aload_n 0, 1) := by decide +kernel
theorem dX2_ways_71 : decode cX2_ways 71 = .ok (.getfield 15, 3) := by decide +kernel
theorem dX2_ways_74 : decode cX2_ways 74 = .ok (.iload 7, 2) := by decide +kernel
theorem dX2_ways_76 : decode cX2_ways 76 = .ok (.dup2, 1) := by decide +kernel
theorem dX2_ways_77 : decode cX2_ways 77 = .ok (.iaload, 1) := by decide +kernel
theorem dX2_ways_78 : decode cX2_ways 78 = .ok (.dup_x2, 1) := by decide +kernel
theorem dX2_ways_79 : decode cX2_ways 79 = .ok (.iconst 1, 1) := by decide +kernel
theorem dX2_ways_80 : decode cX2_ways 80 = .ok (.iadd, 1) := by decide +kernel
theorem dX2_ways_81 : decode cX2_ways 81 = .ok (.iastore, 1) := by decide +kernel
theorem dX2_ways_82 : decode cX2_ways 82 = .ok (.istore 8, 2) := by decide +kernel
theorem dX2_ways_84 : decode cX2_ways 84 = .ok (.iload 4, 2) := by decide +kernel
theorem dX2_ways_86 : decode cX2_ways 86 = .ok (.iload 6, 2) := by decide +kernel
theorem dX2_ways_88 : decode cX2_ways 88 = .ok (.aload_n 0, 1) := by decide +kernel
theorem dX2_ways_89 : decode cX2_ways 89 = .ok (.aload_n 1, 1) := by decide +kernel
theorem dX2_ways_90 : decode cX2_ways 90 = .ok (.iload_n 2, 1) := by decide +kernel
theorem dX2_ways_91 : decode cX2_ways 91 = .ok (.iconst 1, 1) := by decide +kernel
theorem dX2_ways_92 : decode cX2_ways 92 = .ok (.iadd, 1) := by decide +kernel
theorem dX2_ways_93 : decode cX2_ways 93 = .ok (.iload_n 3, 1) := by decide +kernel
theorem dX2_ways_94 : decode cX2_ways 94 = .ok (.iload 8, 2) := by decide +kernel
theorem dX2_ways_96 : decode cX2_ways 96 = .ok (.isub, 1) := by decide +kernel
theorem dX2_ways_97 : decode cX2_ways 97 = .ok (.invokevirtual 37, 3) := by decide +kernel
theorem dX2_ways_100 : decode cX2_ways 100 = .ok (.imul, 1) := by decide +kernel
theorem dX2_ways_101 : decode cX2_ways 101 = .ok (.iadd, 1) := by decide +kernel
theorem dX2_ways_102 : decode cX2_ways 102 = .ok (.istore 4, 2) := by decide +kernel
theorem dX2_ways_104 : decode cX2_ways 104 = .ok (.aload_n 0, 1) := by decide +kernel
theorem dX2_ways_105 : decode cX2_ways 105 = .ok (.getfield 15, 3) := by decide +kernel
theorem dX2_ways_108 : decode cX2_ways 108 = .ok (.iload 7, 2) := by decide +kernel
theorem dX2_ways_110 : decode cX2_ways 110 = .ok (.dup2, 1) := by decide +kernel
theorem dX2_ways_111 : decode cX2_ways 111 = .ok (.iaload, 1) := by decide +kernel
theorem dX2_ways_112 : decode cX2_ways 112 = .ok (.iconst 1, 1) := by decide +kernel
theorem dX2_ways_113 : decode cX2_ways 113 = .ok (.isub, 1) := by decide +kernel
theorem dX2_ways_114 : decode cX2_ways 114 = .ok (.iastore, 1) := by decide +kernel
theorem dX2_ways_115 : decode cX2_ways 115 = .ok (.aload_n 0, 1) := by decide +kernel
theorem dX2_ways_116 : decode cX2_ways 116 = .ok (.getfield 9, 3) := by decide +kernel
theorem dX2_ways_119 : decode cX2_ways 119 = .ok (.iload 5, 2) := by decide +kernel
theorem dX2_ways_121 : decode cX2_ways 121 = .ok (.dup2, 1) := by decide +kernel
theorem dX2_ways_122 : decode cX2_ways 122 = .ok (.iaload, 1) := by decide +kernel
theorem dX2_ways_123 : decode cX2_ways 123 = .ok (.iconst 1, 1) := by decide +kernel
theorem dX2_ways_124 : decode cX2_ways 124 = .ok (.iadd, 1) := by decide +kernel
theorem dX2_ways_125 : decode cX2_ways 125 = .ok (.iastore, 1) := by decide +kernel
theorem dX2_ways_126 : decode cX2_ways 126 = .ok (.iinc 5 1, 3) := by decide +kernel
theorem dX2_ways_129 : decode cX2_ways 129 = .ok (.goto (-105), 3) := by decide +kernel
theorem dX2_ways_132 : decode cX2_ways 132 = .ok (.iload 4, 2) := by decide +kernel
theorem dX2_ways_134 : decode cX2_ways 134 = .ok (.ireturn, 1) := by decide +kernel
theorem dX3_init_0 : decode cX3_init 0 = .ok (.aload_n 0, 1) := by decide +kernel
theorem dX3_init_1 : decode cX3_init 1 = .ok (.invokespecial 3, 3) := by decide +kernel
theorem dX3_init_4 : decode cX3_init 4 = .ok (.aload_n 0, 1) := by decide +kernel
theorem dX3_init_5 : decode cX3_init 5 = .ok (.bipush 12, 2) := by decide +kernel
theorem dX3_init_7 : decode cX3_init 7 = .ok (.newarray .int, 2) := by decide +kernel
theorem dX3_init_9 : decode cX3_init 9 = .ok (.putfield 9, 3) := by decide +kernel
theorem dX3_init_12 : decode cX3_init 12 = .ok (.aload_n 0, 1) := by decide +kernel
theorem dX3_init_13 : decode cX3_init 13 = .ok (.bipush 16, 2) := by decide +kernel
theorem dX3_init_15 : decode cX3_init 15 = .ok (.newarray .int, 2) := by decide +kernel
theorem dX3_init_17 : decode cX3_init 17 = .ok (.putfield 15, 3) := by decide +kernel
theorem dX3_init_20 : decode cX3_init 20 = .ok (.aload_n 0, 1) := by decide +kernel
theorem dX3_init_21 : decode cX3_init 21 = .ok (.iconst 3, 1) := by decide +kernel
theorem dX3_init_22 : decode cX3_init 22 = .ok (.newarray .int, 2) := by decide +kernel
theorem dX3_init_24 : decode cX3_init 24 = .ok (.dup, 1) := by decide +kernel
theorem dX3_init_25 : decode cX3_init 25 = .ok (.iconst 0, 1) := by decide +kernel
theorem dX3_init_26 : decode cX3_init 26 = .ok (.bipush 10, 2) := by decide +kernel
theorem dX3_init_28 : decode cX3_init 28 = .ok (.iastore, 1) := by decide +kernel
theorem dX3_init_29 : decode cX3_init 29 = .ok (.dup, 1) := by decide +kernel
theorem dX3_init_30 : decode cX3_init 30 = .ok (.iconst 1, 1) := by decide +kernel
theorem dX3_init_31 : decode cX3_init 31 = .ok (.bipush 10, 2) := by decide +kernel
theorem dX3_init_33 : decode cX3_init 33 = .ok (.iastore, 1) := by decide +kernel
theorem dX3_init_34 : decode cX3_init 34 = .ok (.dup, 1) := by decide +kernel
theorem dX3_init_35 : decode cX3_init 35 = .ok (.iconst 2, 1) := by decide +kernel
theorem dX3_init_36 : decode cX3_init 36 = .ok (.bipush 10, 2) := by decide +kernel
theorem dX3_init_38 : decode cX3_init 38 = .ok (.iastore, 1) := by decide +kernel
theorem dX3_init_39 : decode cX3_init 39 = .ok (.putfield 18, 3) := by decide +kernel
theorem dX3_init_42 : decode cX3_init 42 = .ok (.aload_n 0, 1) := by decide +kernel
theorem dX3_init_43 : decode cX3_init 43 = .ok (.bipush 120, 2) := by decide +kernel
theorem dX3_init_45 : decode cX3_init 45 = .ok (.newarray .int, 2) := by decide +kernel
theorem dX3_init_47 : decode cX3_init 47 = .ok (.putfield 23, 3) := by decide +kernel
theorem dX3_init_50 : decode cX3_init 50 = .ok (.return_, 1) := by decide +kernel
theorem dX3_forget_0 : decode cX3_forget 0 = .ok (.aload_n 0, 1) := by decide +kernel
theorem dX3_forget_1 : decode cX3_forget 1 = .ok (.getfield 9, 3) := by decide +kernel
theorem dX3_forget_4 : decode cX3_forget 4 = .ok (.iconst 0, 1) := by decide +kernel
theorem dX3_forget_5 : decode cX3_forget 5 = .ok (.invokestatic 26, 3) := by decide +kernel
theorem dX3_forget_8 : decode cX3_forget 8 = .ok (.aload_n 0, 1) := by decide +kernel
theorem dX3_forget_9 : decode cX3_forget 9 = .ok (.getfield 15, 3) := by decide +kernel
theorem dX3_forget_12 : decode cX3_forget 12 = .ok (.iconst 0, 1) := by decide +kernel
theorem dX3_forget_13 : decode cX3_forget 13 = .ok (.invokestatic 26, 3) := by decide +kernel
theorem dX3_forget_16 : decode cX3_forget 16 = .ok (.aload_n 0, 1) := by decide +kernel
theorem dX3_forget_17 : decode cX3_forget 17 = .ok (.getfield 18, 3) := by decide +kernel
theorem dX3_forget_20 : decode cX3_forget 20 = .ok (.bipush 10, 2) := by decide +kernel
theorem dX3_forget_22 : decode cX3_forget 22 = .ok (.invokestatic 26, 3) := by decide +kernel
theorem dX3_forget_25 : decode cX3_forget 25 = .ok (.aload_n 0, 1) := by decide +kernel
theorem dX3_forget_26 : decode cX3_forget 26 = .ok (.iconst 0, 1) := by decide +kernel
theorem dX3_forget_27 : decode cX3_forget 27 = .ok (.putfield 32, 3) := by decide +kernel
theorem dX3_forget_30 : decode cX3_forget 30 = .ok (.aload_n 0, 1) := by decide +kernel
theorem dX3_forget_31 : decode cX3_forget 31 = .ok (.iconst 0, 1) := by decide +kernel
theorem dX3_forget_32 : decode cX3_forget 32 = .ok (.putfield 36, 3) := by decide +kernel
theorem dX3_forget_35 : decode cX3_forget 35 = .ok (.aload_n 0, 1) := by decide +kernel
theorem dX3_forget_36 : decode cX3_forget 36 = .ok (.iconst 0, 1) := by decide +kernel
theorem dX3_forget_37 : decode cX3_forget 37 = .ok (.putfield 39, 3) := by decide +kernel
theorem dX3_forget_40 : decode cX3_forget 40 = .ok (.aload_n 0, 1) := by decide +kernel
theorem dX3_forget_41 : decode cX3_forget 41 = .ok (.iconst 0, 1) := by decide +kernel
theorem dX3_forget_42 : decode cX3_forget 42 = .ok (.putfield 42, 3) := by decide +kernel
theorem dX3_forget_45 : decode cX3_forget 45 = .ok (.return_, 1) := by decide +kernel
theorem dX3_emit_0 : decode cX3_emit 0 = .ok (.aload_n 0, 1) := by decide +kernel
theorem dX3_emit_1 : decode cX3_emit 1 = .ok (.getfield 42, 3) := by decide +kernel
theorem dX3_emit_4 : decode cX3_emit 4 = .ok (.aload_n 0, 1) := by decide +kernel
theorem dX3_emit_5 : decode cX3_emit 5 = .ok (.getfield 23, 3) := by decide +kernel
theorem dX3_emit_8 : decode cX3_emit 8 = .ok (.arraylength, 1) := by decide +kernel
theorem dX3_emit_9 : decode cX3_emit 9 = .ok (.if_icmp .ge 24, 3) := by decide +kernel
theorem dX3_emit_12 : decode cX3_emit 12 = .ok (.aload_n 0, 1) := by decide +kernel
theorem dX3_emit_13 : decode cX3_emit 13 = .ok (.getfield 23, 3) := by decide +kernel
theorem dX3_emit_16 : decode cX3_emit 16 = .ok (.aload_n 0, 1) := by decide +kernel
theorem dX3_emit_17 : decode cX3_emit 17 = .ok (.dup, 1) := by decide +kernel
theorem dX3_emit_18 : decode cX3_emit 18 = .ok (.getfield 42, 3) := by decide +kernel
theorem dX3_emit_21 : decode cX3_emit 21 = .ok (.dup_x1, 1) := by decide +kernel
theorem dX3_emit_22 : decode cX3_emit 22 = .ok (.iconst 1, 1) := by decide +kernel
theorem dX3_emit_23 : decode cX3_emit 23 = .ok (.iadd, 1) := by decide +kernel
theorem dX3_emit_24 : decode cX3_emit 24 = .ok (.putfield 42, 3) := by decide +kernel
theorem dX3_emit_27 : decode cX3_emit 27 = .ok (.iload_n 2, 1) := by decide +kernel
theorem dX3_emit_28 : decode cX3_emit 28 = .ok (.iconst 4, 1) := by decide +kernel
theorem dX3_emit_29 : decode cX3_emit 29 = .ok (.ishl, 1) := by decide +kernel
theorem dX3_emit_30 : decode cX3_emit 30 = .ok (.iload_n 1, 1) := by decide +kernel
theorem dX3_emit_31 : decode cX3_emit 31 = .ok (.ior, 1) := by decide +kernel
theorem dX3_emit_32 : decode cX3_emit 32 = .ok (.iastore, 1) := by decide +kernel
theorem dX3_emit_33 : decode cX3_emit 33 = .ok (.return_, 1) := by decide +kernel
theorem dX3_shunned_0 : decode cX3_shunned 0 = .ok (.iconst 0, 1) := by decide +kernel
theorem dX3_shunned_1 : decode cX3_shunned 1 = .ok (.istore 5, 2) := by decide +kernel
theorem dX3_shunned_3 : decode cX3_shunned 3 = .ok (.iconst 0, 1) := by decide +kernel
theorem dX3_shunned_4 : decode cX3_shunned 4 = .ok (.istore 6, 2) := by decide +kernel
theorem dX3_shunned_6 : decode cX3_shunned 6 = .ok (.iconst 0, 1) := by decide +kernel
theorem dX3_shunned_7 : decode cX3_shunned 7 = .ok (.istore 7, 2) := by decide +kernel
theorem dX3_shunned_9 : decode cX3_shunned 9 = .ok (.iload 7, 2) := by decide +kernel
theorem dX3_shunned_11 : decode cX3_shunned 11 = .ok (.aload_n 0, 1) := by decide +kernel
theorem dX3_shunned_12 : decode cX3_shunned 12 = .ok (.getfield 42, 3) := by decide +kernel
theorem dX3_shunned_15 : decode cX3_shunned 15 = .ok (.if_icmp .ge 184, 3) := by decide +kernel
theorem dX3_shunned_18 : decode cX3_shunned 18 = .ok (.aload_n 0, 1) := by decide +kernel
theorem dX3_shunned_19 : decode cX3_shunned 19 = .ok (.getfield 23, 3) := by decide +kernel
theorem dX3_shunned_22 : decode cX3_shunned 22 = .ok (.iload 7, 2) := by decide +kernel
theorem dX3_shunned_24 : decode cX3_shunned 24 = .ok (.iaload, 1) := by decide +kernel
theorem dX3_shunned_25 : decode cX3_shunned 25 = .ok (.bipush 15, 2) := by decide +kernel
theorem dX3_shunned_27 : decode cX3_shunned 27 = .ok (.iand, 1) := by decide +kernel
theorem dX3_shunned_28 : decode cX3_shunned 28 = .ok (.istore 8, 2) := by decide +kernel
theorem dX3_shunned_30 : decode cX3_shunned 30 = .ok (.aload_n 0, 1) := by decide +kernel
theorem dX3_shunned_31 : decode cX3_shunned 31 = .ok (.getfield 23, 3) := by decide +kernel
theorem dX3_shunned_34 : decode cX3_shunned 34 = .ok (.iload 7, 2) := by decide +kernel
theorem dX3_shunned_36 : decode cX3_shunned 36 = .ok (.iaload, 1) := by decide +kernel
theorem dX3_shunned_37 : decode cX3_shunned 37 = .ok (.iconst 4, 1) := by decide +kernel
theorem dX3_shunned_38 : decode cX3_shunned 38 = .ok (.ishr, 1) := by decide +kernel
theorem dX3_shunned_39 : decode cX3_shunned 39 = .ok (.istore 9, 2) := by decide +kernel
theorem dX3_shunned_41 : decode cX3_shunned 41 = .ok (.iload 8, 2) := by decide +kernel
theorem dX3_shunned_43 : decode cX3_shunned 43 = .ok (.tableswitch 85 12 15 #[29, 38, 53, 67], 29) := by decide +kernel
theorem dX3_shunned_72 : decode cX3_shunned 72 = .ok (.iload 6, 2) := by decide +kernel
theorem dX3_shunned_74 : decode cX3_shunned 74 = .ok (.iconst 1, 1) := by decide +kernel
theorem dX3_shunned_75 : decode cX3_shunned 75 = .ok (.ixor, 1) := by decide +kernel
theorem dX3_shunned_76 : decode cX3_shunned 76 = .ok (.istore 6, 2) := by decide +kernel
theorem dX3_shunned_78 : decode cX3_shunned 78 = .ok (.goto 115, 3) := by decide +kernel
theorem dX3_shunned_81 : decode cX3_shunned 81 = .ok (.iload 6, 2) := by decide +kernel
theorem dX3_shunned_83 : decode cX3_shunned 83 = .ok (.iconst 1, 1) := by decide +kernel
theorem dX3_shunned_84 : decode cX3_shunned 84 = .ok (.ishr, 1) := by decide +kernel
theorem dX3_shunned_85 : decode cX3_shunned 85 = .ok (.iload 6, 2) := by decide +kernel
theorem dX3_shunned_87 : decode cX3_shunned 87 = .ok (.bipush (-2), 2) := by decide +kernel
theorem dX3_shunned_89 : decode cX3_shunned 89 = .ok (.ior, 1) := by decide +kernel
theorem dX3_shunned_90 : decode cX3_shunned 90 = .ok (.iand, 1) := by decide +kernel
theorem dX3_shunned_91 : decode cX3_shunned 91 = .ok (.istore 6, 2) := by decide +kernel
theorem dX3_shunned_93 : decode cX3_shunned 93 = .ok (.goto 100, 3) := by decide +kernel
theorem dX3_shunned_96 : decode cX3_shunned 96 = .ok (.iload 6, 2) := by decide +kernel
theorem dX3_shunned_98 : decode cX3_shunned 98 = .ok (.iconst 1, 1) := by decide +kernel
theorem dX3_shunned_99 : decode cX3_shunned 99 = .ok (.ishr, 1) := by decide +kernel
theorem dX3_shunned_100 : decode cX3_shunned 100 = .ok (.iload 6, 2) := by decide +kernel
theorem dX3_shunned_102 : decode cX3_shunned 102 = .ok (.iconst 1, 1) := by decide +kernel
theorem dX3_shunned_103 : decode cX3_shunned 103 = .ok (.iand, 1) := by decide +kernel
theorem dX3_shunned_104 : decode cX3_shunned 104 = .ok (.ior, 1) := by decide +kernel
theorem dX3_shunned_105 : decode cX3_shunned 105 = .ok (.istore 6, 2) := by decide +kernel
theorem dX3_shunned_107 : decode cX3_shunned 107 = .ok (.goto 86, 3) := by decide +kernel
theorem dX3_shunned_110 : decode cX3_shunned 110 = .ok (.iload 5, 2) := by decide +kernel
theorem dX3_shunned_112 : decode cX3_shunned 112 = .ok (.iload 6, 2) := by decide +kernel
theorem dX3_shunned_114 : decode cX3_shunned 114 = .ok (.iconst 1, 1) := by decide +kernel
theorem dX3_shunned_115 : decode cX3_shunned 115 = .ok (.iand, 1) := by decide +kernel
theorem dX3_shunned_116 : decode cX3_shunned 116 = .ok (.iload 9, 2) := by decide +kernel
theorem dX3_shunned_118 : decode cX3_shunned 118 = .ok (.imul, 1) := by decide +kernel
theorem dX3_shunned_119 : decode cX3_shunned 119 = .ok (.iadd, 1) := by decide +kernel
theorem dX3_shunned_120 : decode cX3_shunned 120 = .ok (.istore 5, 2) := by decide +kernel
theorem dX3_shunned_122 : decode cX3_shunned 122 = .ok (.iconst 0, 1) := by decide +kernel
theorem dX3_shunned_123 : decode cX3_shunned 123 = .ok (.istore 6, 2) := by decide +kernel
theorem dX3_shunned_125 : decode cX3_shunned 125 = .ok (.goto 68, 3) := by decide +kernel
theorem dX3_shunned_128 : decode cX3_shunned 128 = .ok (.iload 8, 2) := by decide +kernel
theorem dX3_shunned_130 : decode cX3_shunned 130 = .ok (.iconst 3, 1) := by decide +kernel
theorem dX3_shunned_131 : decode cX3_shunned 131 = .ok (.idiv, 1) := by decide +kernel
theorem dX3_shunned_132 : decode cX3_shunned 132 = .ok (.istore 10, 2) := by decide +kernel
theorem dX3_shunned_134 : decode cX3_shunned 134 = .ok (.iload 10, 2) := by decide +kernel
theorem dX3_shunned_136 : decode cX3_shunned 136 = .ok (.ifCond .ne 7, 3) := by decide +kernel
theorem dX3_shunned_139 : decode cX3_shunned 139 = .ok (.iload_n 1, 1) := by decide +kernel
theorem dX3_shunned_140 : decode cX3_shunned 140 = .ok (.goto 25, 3) := by decide +kernel
theorem dX3_shunned_143 : decode cX3_shunned 143 = .ok (.iload 10, 2) := by decide +kernel
theorem dX3_shunned_145 : decode cX3_shunned 145 = .ok (.iconst 1, 1) := by decide +kernel
theorem dX3_shunned_146 : decode cX3_shunned 146 = .ok (.if_icmp .ne 7, 3) := by decide +kernel
theorem dX3_shunned_149 : decode cX3_shunned 149 = .ok (.iload_n 2, 1) := by decide +kernel
theorem dX3_shunned_150 : decode cX3_shunned 150 = .ok (.goto 15, 3) := by decide +kernel
theorem dX3_shunned_153 : decode cX3_shunned 153 = .ok (.iload 10, 2) := by decide +kernel
theorem dX3_shunned_155 : decode cX3_shunned 155 = .ok (.iconst 2, 1) := by decide +kernel
theorem dX3_shunned_156 : decode cX3_shunned 156 = .ok (.if_icmp .ne 7, 3) := by decide +kernel
theorem dX3_shunned_159 : decode cX3_shunned 159 = .ok (.iload_n 3, 1) := by decide +kernel
theorem dX3_shunned_160 : decode cX3_shunned 160 = .ok (.goto 5, 3) := by decide +kernel
theorem dX3_shunned_163 : decode cX3_shunned 163 = .ok (.iload 4, 2) := by decide +kernel
theorem dX3_shunned_165 : decode cX3_shunned 165 = .ok (.istore 11, 2) := by decide +kernel
theorem dX3_shunned_167 : decode cX3_shunned 167 = .ok (.iload 6, 2) := by decide +kernel
theorem dX3_shunned_169 : decode cX3_shunned 169 = .ok (.iconst 1, 1) := by decide +kernel
theorem dX3_shunned_170 : decode cX3_shunned 170 = .ok (.ishl, 1) := by decide +kernel
theorem dX3_shunned_171 : decode cX3_shunned 171 = .ok (.iload 11, 2) := by decide +kernel
theorem dX3_shunned_173 : decode cX3_shunned 173 = .ok (.iload 8, 2) := by decide +kernel
theorem dX3_shunned_175 : decode cX3_shunned 175 = .ok (.iconst 3, 1) := by decide +kernel
theorem dX3_shunned_176 : decode cX3_shunned 176 = .ok (.irem, 1) := by decide +kernel
theorem dX3_shunned_177 : decode cX3_shunned 177 = .ok (.iload 9, 2) := by decide +kernel
theorem dX3_shunned_179 : decode cX3_shunned 179 = .ok (.invokestatic 45, 3) := by decide +kernel
theorem dX3_shunned_182 : decode cX3_shunned 182 = .ok (.ifCond .eq 7, 3) := by decide +kernel
theorem dX3_shunned_185 : decode cX3_shunned 185 = .ok (.iconst 1, 1) := by decide +kernel
theorem dX3_shunned_186 : decode cX3_shunned 186 = .ok (.goto 4, 3) := by decide +kernel
theorem dX3_shunned_189 : decode cX3_shunned 189 = .ok (.iconst 0, 1) := by decide +kernel
theorem dX3_shunned_190 : decode cX3_shunned 190 = .ok (.ior, 1) := by decide +kernel
theorem dX3_shunned_191 : decode cX3_shunned 191 = .ok (.istore 6, 2) := by decide +kernel
theorem dX3_shunned_193 : decode cX3_shunned 193 = .ok (.iinc 7 1, 3) := by decide +kernel
theorem dX3_shunned_196 : decode cX3_shunned 196 = .ok (.goto (-187), 3) := by decide +kernel
theorem dX3_shunned_199 : decode cX3_shunned 199 = .ok (.iload 5, 2) := by decide +kernel
theorem dX3_shunned_201 : decode cX3_shunned 201 = .ok (.ireturn, 1) := by decide +kernel
theorem dX3_holds_0 : decode cX3_holds 0 = .ok (.iload_n 1, 1) := by decide +kernel
theorem dX3_holds_1 : decode cX3_holds 1 = .ok (.ifCond .ne 16, 3) := by decide +kernel
theorem dX3_holds_4 : decode cX3_holds 4 = .ok (.iload_n 0, 1) := by decide +kernel
theorem dX3_holds_5 : decode cX3_holds 5 = .ok (.iload_n 2, 1) := by decide +kernel
theorem dX3_holds_6 : decode cX3_holds 6 = .ok (.if_icmp .ge 7, 3) := by decide +kernel
theorem dX3_holds_9 : decode cX3_holds 9 = .ok (.iconst 1, 1) := by decide +kernel
theorem dX3_holds_10 : decode cX3_holds 10 = .ok (.goto 35, 3) := by decide +kernel
theorem dX3_holds_13 : decode cX3_holds 13 = .ok (.iconst 0, 1) := by decide +kernel
theorem dX3_holds_14 : decode cX3_holds 14 = .ok (.goto 31, 3) := by decide +kernel
theorem dX3_holds_17 : decode cX3_holds 17 = .ok (.iload_n 1, 1) := by decide +kernel
theorem dX3_holds_18 : decode cX3_holds 18 = .ok (.iconst 1, 1) := by decide +kernel
theorem dX3_holds_19 : decode cX3_holds 19 = .ok (.if_icmp .ne 16, 3) := by decide +kernel
theorem dX3_holds_22 : decode cX3_holds 22 = .ok (.iload_n 0, 1) := by decide +kernel
theorem dX3_holds_23 : decode cX3_holds 23 = .ok (.iload_n 2, 1) := by decide +kernel
theorem dX3_holds_24 : decode cX3_holds 24 = .ok (.if_icmp .ne 7, 3) := by decide +kernel
theorem dX3_holds_27 : decode cX3_holds 27 = .ok (.iconst 1, 1) := by decide +kernel
theorem dX3_holds_28 : decode cX3_holds 28 = .ok (.goto 17, 3) := by decide +kernel
theorem dX3_holds_31 : decode cX3_holds 31 = .ok (.iconst 0, 1) := by decide +kernel
theorem dX3_holds_32 : decode cX3_holds 32 = .ok (.goto 13, 3) := by decide +kernel
theorem dX3_holds_35 : decode cX3_holds 35 = .ok (.iload_n 0, 1) := by decide +kernel
theorem dX3_holds_36 : decode cX3_holds 36 = .ok (.iload_n 2, 1) := by decide +kernel
theorem dX3_holds_37 : decode cX3_holds 37 = .ok (.if_icmp .le 7, 3) := by decide +kernel
theorem dX3_holds_40 : decode cX3_holds 40 = .ok (.iconst 1, 1) := by decide +kernel
theorem dX3_holds_41 : decode cX3_holds 41 = .ok (.goto 4, 3) := by decide +kernel
theorem dX3_holds_44 : decode cX3_holds 44 = .ok (.iconst 0, 1) := by decide +kernel
theorem dX3_holds_45 : decode cX3_holds 45 = .ok (.ireturn, 1) := by decide +kernel
theorem dX4_init_0 : decode cX4_init 0 = .ok (.aload_n 0, 1) := by decide +kernel
theorem dX4_init_1 : decode cX4_init 1 = .ok (.invokespecial 1, 3) := by decide +kernel
theorem dX4_init_4 : decode cX4_init 4 = .ok (.aload_n 0, 1) := by decide +kernel
theorem dX4_init_5 : decode cX4_init 5 = .ok (.iload_n 1, 1) := by decide +kernel
theorem dX4_init_6 : decode cX4_init 6 = .ok (.putfield 7, 3) := by decide +kernel
theorem dX4_init_9 : decode cX4_init 9 = .ok (.aload_n 0, 1) := by decide +kernel
theorem dX4_init_10 : decode cX4_init 10 = .ok (.iload_n 2, 1) := by decide +kernel
theorem dX4_init_11 : decode cX4_init 11 = .ok (.putfield 13, 3) := by decide +kernel
theorem dX4_init_14 : decode cX4_init 14 = .ok (.aload_n 0, 1) := by decide +kernel
theorem dX4_init_15 : decode cX4_init 15 = .ok (.iload_n 3, 1) := by decide +kernel
theorem dX4_init_16 : decode cX4_init 16 = .ok (.putfield 16, 3) := by decide +kernel
theorem dX4_init_19 : decode cX4_init 19 = .ok (.aload_n 0, 1) := by decide +kernel
theorem dX4_init_20 : decode cX4_init 20 = .ok (.iload 4, 2) := by decide +kernel
theorem dX4_init_22 : decode cX4_init 22 = .ok (.putfield 19, 3) := by decide +kernel
theorem dX4_init_25 : decode cX4_init 25 = .ok (.return_, 1) := by decide +kernel
theorem dX4_clashes_0 : decode cX4_clashes 0 = .ok (.aload_n 0, 1) := by decide +kernel
theorem dX4_clashes_1 : decode cX4_clashes 1 = .ok (.getfield 7, 3) := by decide +kernel
theorem dX4_clashes_4 : decode cX4_clashes 4 = .ok (.aload_n 1, 1) := by decide +kernel
theorem dX4_clashes_5 : decode cX4_clashes 5 = .ok (.getfield 7, 3) := by decide +kernel
theorem dX4_clashes_8 : decode cX4_clashes 8 = .ok (.if_icmp .ne 18, 3) := by decide +kernel
theorem dX4_clashes_11 : decode cX4_clashes 11 = .ok (.aload_n 0, 1) := by decide +kernel
theorem dX4_clashes_12 : decode cX4_clashes 12 = .ok (.getfield 13, 3) := by decide +kernel
theorem dX4_clashes_15 : decode cX4_clashes 15 = .ok (.aload_n 1, 1) := by decide +kernel
theorem dX4_clashes_16 : decode cX4_clashes 16 = .ok (.getfield 13, 3) := by decide +kernel
theorem dX4_clashes_19 : decode cX4_clashes 19 = .ok (.if_icmp .ne 7, 3) := by decide +kernel
theorem dX4_clashes_22 : decode cX4_clashes 22 = .ok (.iconst 1, 1) := by decide +kernel
theorem dX4_clashes_23 : decode cX4_clashes 23 = .ok (.goto 4, 3) := by decide +kernel
theorem dX4_clashes_26 : decode cX4_clashes 26 = .ok (.iconst 0, 1) := by decide +kernel
theorem dX4_clashes_27 : decode cX4_clashes 27 = .ok (.ireturn, 1) := by decide +kernel
theorem dX4_rule_0 : decode cX4_rule 0 = .ok (.aload_n 0, 1) := by decide +kernel
theorem dX4_rule_1 : decode cX4_rule 1 = .ok (.getfield 7, 3) := by decide +kernel
theorem dX4_rule_4 : decode cX4_rule 4 = .ok (.ifCond .ne 10, 3) := by decide +kernel
theorem dX4_rule_7 : decode cX4_rule 7 = .ok (.aload_n 1, 1) := by decide +kernel
theorem dX4_rule_8 : decode cX4_rule 8 = .ok (.getfield 22, 3) := by decide +kernel
theorem dX4_rule_11 : decode cX4_rule 11 = .ok (.goto 22, 3) := by decide +kernel
theorem dX4_rule_14 : decode cX4_rule 14 = .ok (.aload_n 0, 1) := by decide +kernel
theorem dX4_rule_15 : decode cX4_rule 15 = .ok (.getfield 7, 3) := by decide +kernel
theorem dX4_rule_18 : decode cX4_rule 18 = .ok (.iconst 1, 1) := by decide +kernel
theorem dX4_rule_19 : decode cX4_rule 19 = .ok (.if_icmp .ne 10, 3) := by decide +kernel
theorem dX4_rule_22 : decode cX4_rule 22 = .ok (.aload_n 1, 1) := by decide +kernel
theorem dX4_rule_23 : decode cX4_rule 23 = .ok (.getfield 28, 3) := by decide +kernel
theorem dX4_rule_26 : decode cX4_rule 26 = .ok (.goto 7, 3) := by decide +kernel
theorem dX4_rule_29 : decode cX4_rule 29 = .ok (.aload_n 1, 1) := by decide +kernel
theorem dX4_rule_30 : decode cX4_rule 30 = .ok (.getfield 31, 3) := by decide +kernel
theorem dX4_rule_33 : decode cX4_rule 33 = .ok (.astore_n 2, 1) := by decide +kernel
theorem dX4_rule_34 : decode cX4_rule 34 = .ok (.aload_n 2, 1) := by decide +kernel
theorem dX4_rule_35 : decode cX4_rule 35 = .ok (.aload_n 0, 1) := by decide +kernel
theorem dX4_rule_36 : decode cX4_rule 36 = .ok (.getfield 13, 3) := by decide +kernel
theorem dX4_rule_39 : decode cX4_rule 39 = .ok (.aload_n 0, 1) := by decide +kernel
theorem dX4_rule_40 : decode cX4_rule 40 = .ok (.getfield 16, 3) := by decide +kernel
theorem dX4_rule_43 : decode cX4_rule 43 = .ok (.iastore, 1) := by decide +kernel
theorem dX4_rule_44 : decode cX4_rule 44 = .ok (.return_, 1) := by decide +kernel
theorem dX5_init_0 : decode cX5_init 0 = .ok (.aload_n 0, 1) := by decide +kernel
theorem dX5_init_1 : decode cX5_init 1 = .ok (.invokespecial 3, 3) := by decide +kernel
theorem dX5_init_4 : decode cX5_init 4 = .ok (.aload_n 0, 1) := by decide +kernel
theorem dX5_init_5 : decode cX5_init 5 = .ok (.bipush 120, 2) := by decide +kernel
theorem dX5_init_7 : decode cX5_init 7 = .ok (.newarray .char, 2) := by decide +kernel
theorem dX5_init_9 : decode cX5_init 9 = .ok (.putfield 11, 3) := by decide +kernel
theorem dX5_init_12 : decode cX5_init 12 = .ok (.return_, 1) := by decide +kernel
theorem dX5_append_0 : decode cX5_append 0 = .ok (.aload_n 0, 1) := by decide +kernel
theorem dX5_append_1 : decode cX5_append 1 = .ok (.getfield 15, 3) := by decide +kernel
theorem dX5_append_4 : decode cX5_append 4 = .ok (.bipush 120, 2) := by decide +kernel
theorem dX5_append_6 : decode cX5_append 6 = .ok (.if_icmp .ge 20, 3) := by decide +kernel
theorem dX5_append_9 : decode cX5_append 9 = .ok (.aload_n 0, 1) := by decide +kernel
theorem dX5_append_10 : decode cX5_append 10 = .ok (.getfield 11, 3) := by decide +kernel
theorem dX5_append_13 : decode cX5_append 13 = .ok (.aload_n 0, 1) := by decide +kernel
theorem dX5_append_14 : decode cX5_append 14 = .ok (.dup, 1) := by decide +kernel
theorem dX5_append_15 : decode cX5_append 15 = .ok (.getfield 15, 3) := by decide +kernel
theorem dX5_append_18 : decode cX5_append 18 = .ok (.dup_x1, 1) := by decide +kernel
theorem dX5_append_19 : decode cX5_append 19 = .ok (.iconst 1, 1) := by decide +kernel
theorem dX5_append_20 : decode cX5_append 20 = .ok (.iadd, 1) := by decide +kernel
theorem dX5_append_21 : decode cX5_append 21 = .ok (.putfield 15, 3) := by decide +kernel
theorem dX5_append_24 : decode cX5_append 24 = .ok (.iload_n 1, 1) := by decide +kernel
theorem dX5_append_25 : decode cX5_append 25 = .ok (.castore, 1) := by decide +kernel
theorem dX5_append_26 : decode cX5_append 26 = .ok (.return_, 1) := by decide +kernel
theorem dX5_faultIn_0 : decode cX5_faultIn 0 = .ok (.aload_n 1, 1) := by decide +kernel
theorem dX5_faultIn_1 : decode cX5_faultIn 1 = .ok (.invokevirtual 19, 3) := by decide +kernel
theorem dX5_faultIn_4 : decode cX5_faultIn 4 = .ok (.aload_n 0, 1) := by decide +kernel
theorem dX5_faultIn_5 : decode cX5_faultIn 5 = .ok (.iconst 0, 1) := by decide +kernel
theorem dX5_faultIn_6 : decode cX5_faultIn 6 = .ok (.putfield 24, 3) := by decide +kernel
theorem dX5_faultIn_9 : decode cX5_faultIn 9 = .ok (.iconst 1, 1) := by decide +kernel
theorem dX5_faultIn_10 : decode cX5_faultIn 10 = .ok (.istore_n 2, 1) := by decide +kernel
theorem dX5_faultIn_11 : decode cX5_faultIn 11 = .ok (.iload_n 2, 1) := by decide +kernel
theorem dX5_faultIn_12 : decode cX5_faultIn 12 = .ok (.bipush 10, 2) := by decide +kernel
theorem dX5_faultIn_14 : decode cX5_faultIn 14 = .ok (.if_icmp .gt 55, 3) := by decide +kernel
theorem dX5_faultIn_17 : decode cX5_faultIn 17 = .ok (.aload_n 0, 1) := by decide +kernel
theorem dX5_faultIn_18 : decode cX5_faultIn 18 = .ok (.aload_n 1, 1) := by decide +kernel
theorem dX5_faultIn_19 : decode cX5_faultIn 19 = .ok (.invokevirtual 27, 3) := by decide +kernel
theorem dX5_faultIn_22 : decode cX5_faultIn 22 = .ok (.ifCond .ne 8, 3) := by decide +kernel
theorem dX5_faultIn_25 : decode cX5_faultIn 25 = .ok (.aload_n 0, 1) := by decide +kernel
theorem dX5_faultIn_26 : decode cX5_faultIn 26 = .ok (.getfield 24, 3) := by decide +kernel
theorem dX5_faultIn_29 : decode cX5_faultIn 29 = .ok (.ireturn, 1) := by decide +kernel
theorem dX5_faultIn_30 : decode cX5_faultIn 30 = .ok (.aload_n 0, 1) := by decide +kernel
theorem dX5_faultIn_31 : decode cX5_faultIn 31 = .ok (.getfield 24, 3) := by decide +kernel
theorem dX5_faultIn_34 : decode cX5_faultIn 34 = .ok (.aload_n 0, 1) := by decide +kernel
theorem dX5_faultIn_35 : decode cX5_faultIn 35 = .ok (.getfield 15, 3) := by decide +kernel
theorem dX5_faultIn_38 : decode cX5_faultIn 38 = .ok (.if_icmp .ne 5, 3) := by decide +kernel
theorem dX5_faultIn_41 : decode cX5_faultIn 41 = .ok (.iconst (-1), 1) := by decide +kernel
theorem dX5_faultIn_42 : decode cX5_faultIn 42 = .ok (.ireturn, 1) := by decide +kernel
theorem dX5_faultIn_43 : decode cX5_faultIn 43 = .ok (.iload_n 2, 1) := by decide +kernel
theorem dX5_faultIn_44 : decode cX5_faultIn 44 = .ok (.bipush 10, 2) := by decide +kernel
theorem dX5_faultIn_46 : decode cX5_faultIn 46 = .ok (.if_icmp .eq 12, 3) := by decide +kernel
theorem dX5_faultIn_49 : decode cX5_faultIn 49 = .ok (.aload_n 0, 1) := by decide +kernel
theorem dX5_faultIn_50 : decode cX5_faultIn 50 = .ok (.bipush 59, 2) := by decide +kernel
theorem dX5_faultIn_52 : decode cX5_faultIn 52 = .ok (.invokevirtual 31, 3) := by decide +kernel
theorem dX5_faultIn_55 : decode cX5_faultIn 55 = .ok (.ifCond .ne 8, 3) := by decide +kernel
theorem dX5_faultIn_58 : decode cX5_faultIn 58 = .ok (.aload_n 0, 1) := by decide +kernel
theorem dX5_faultIn_59 : decode cX5_faultIn 59 = .ok (.getfield 24, 3) := by decide +kernel
theorem dX5_faultIn_62 : decode cX5_faultIn 62 = .ok (.ireturn, 1) := by decide +kernel
theorem dX5_faultIn_63 : decode cX5_faultIn 63 = .ok (.iinc 2 1, 3) := by decide +kernel
theorem dX5_faultIn_66 : decode cX5_faultIn 66 = .ok (.goto (-55), 3) := by decide +kernel
theorem dX5_faultIn_69 : decode cX5_faultIn 69 = .ok (.aload_n 0, 1) := by decide +kernel
theorem dX5_faultIn_70 : decode cX5_faultIn 70 = .ok (.getfield 24, 3) := by decide +kernel
theorem dX5_faultIn_73 : decode cX5_faultIn 73 = .ok (.ireturn, 1) := by decide +kernel
theorem dX5_clause_0 : decode cX5_clause 0 = .ok (.aload_n 0, 1) := by decide +kernel
theorem dX5_clause_1 : decode cX5_clause 1 = .ok (.invokevirtual 35, 3) := by decide +kernel
theorem dX5_clause_4 : decode cX5_clause 4 = .ok (.istore_n 2, 1) := by decide +kernel
theorem dX5_clause_5 : decode cX5_clause 5 = .ok (.iload_n 2, 1) := by decide +kernel
theorem dX5_clause_6 : decode cX5_clause 6 = .ok (.ifCond .lt 12, 3) := by decide +kernel
theorem dX5_clause_9 : decode cX5_clause 9 = .ok (.aload_n 0, 1) := by decide +kernel
theorem dX5_clause_10 : decode cX5_clause 10 = .ok (.bipush 32, 2) := by decide +kernel
theorem dX5_clause_12 : decode cX5_clause 12 = .ok (.invokevirtual 31, 3) := by decide +kernel
theorem dX5_clause_15 : decode cX5_clause 15 = .ok (.ifCond .ne 5, 3) := by decide +kernel
theorem dX5_clause_18 : decode cX5_clause 18 = .ok (.iconst 0, 1) := by decide +kernel
theorem dX5_clause_19 : decode cX5_clause 19 = .ok (.ireturn, 1) := by decide +kernel
theorem dX5_clause_20 : decode cX5_clause 20 = .ok (.iload_n 2, 1) := by decide +kernel
theorem dX5_clause_21 : decode cX5_clause 21 = .ok (.tableswitch 135 0 5 #[39, 49, 59, 68, 89, 112], 39) := by decide +kernel
theorem dX5_clause_60 : decode cX5_clause 60 = .ok (.aload_n 0, 1) := by decide +kernel
theorem dX5_clause_61 : decode cX5_clause 61 = .ok (.aload_n 1, 1) := by decide +kernel
theorem dX5_clause_62 : decode cX5_clause 62 = .ok (.getfield 39, 3) := by decide +kernel
theorem dX5_clause_65 : decode cX5_clause 65 = .ok (.iconst 3, 1) := by decide +kernel
theorem dX5_clause_66 : decode cX5_clause 66 = .ok (.invokevirtual 43, 3) := by decide +kernel
theorem dX5_clause_69 : decode cX5_clause 69 = .ok (.ireturn, 1) := by decide +kernel
theorem dX5_clause_70 : decode cX5_clause 70 = .ok (.aload_n 0, 1) := by decide +kernel
theorem dX5_clause_71 : decode cX5_clause 71 = .ok (.aload_n 1, 1) := by decide +kernel
theorem dX5_clause_72 : decode cX5_clause 72 = .ok (.getfield 47, 3) := by decide +kernel
theorem dX5_clause_75 : decode cX5_clause 75 = .ok (.iconst 4, 1) := by decide +kernel
theorem dX5_clause_76 : decode cX5_clause 76 = .ok (.invokevirtual 43, 3) := by decide +kernel
theorem dX5_clause_79 : decode cX5_clause 79 = .ok (.ireturn, 1) := by decide +kernel
theorem dX5_clause_80 : decode cX5_clause 80 = .ok (.aload_n 0, 1) := by decide +kernel
theorem dX5_clause_81 : decode cX5_clause 81 = .ok (.aload_n 1, 1) := by decide +kernel
theorem dX5_clause_82 : decode cX5_clause 82 = .ok (.getfield 50, 3) := by decide +kernel
theorem dX5_clause_85 : decode cX5_clause 85 = .ok (.invokevirtual 53, 3) := by decide +kernel
theorem dX5_clause_88 : decode cX5_clause 88 = .ok (.ireturn, 1) := by decide +kernel
theorem dX5_clause_89 : decode cX5_clause 89 = .ok (.aload_n 1, 1) := by decide +kernel
theorem dX5_clause_90 : decode cX5_clause 90 = .ok (.aload_n 0, 1) := by decide +kernel
theorem dX5_clause_91 : decode cX5_clause 91 = .ok (.invokevirtual 57, 3) := by decide +kernel
theorem dX5_clause_94 : decode cX5_clause 94 = .ok (.putfield 60, 3) := by decide +kernel
theorem dX5_clause_97 : decode cX5_clause 97 = .ok (.aload_n 1, 1) := by decide +kernel
theorem dX5_clause_98 : decode cX5_clause 98 = .ok (.getfield 60, 3) := by decide +kernel
theorem dX5_clause_101 : decode cX5_clause 101 = .ok (.ifCond .lt 7, 3) := by decide +kernel
theorem dX5_clause_104 : decode cX5_clause 104 = .ok (.iconst 1, 1) := by decide +kernel
theorem dX5_clause_105 : decode cX5_clause 105 = .ok (.goto 4, 3) := by decide +kernel
theorem dX5_clause_108 : decode cX5_clause 108 = .ok (.iconst 0, 1) := by decide +kernel
theorem dX5_clause_109 : decode cX5_clause 109 = .ok (.ireturn, 1) := by decide +kernel
theorem dX5_clause_110 : decode cX5_clause 110 = .ok (.aload_n 1, 1) := by decide +kernel
theorem dX5_clause_111 : decode cX5_clause 111 = .ok (.aload_n 0, 1) := by decide +kernel
theorem dX5_clause_112 : decode cX5_clause 112 = .ok (.ldc 63, 2) := by decide +kernel
theorem dX5_clause_114 : decode cX5_clause 114 = .ok (.invokevirtual 65, 3) := by decide +kernel
theorem dX5_clause_117 : decode cX5_clause 117 = .ok (.putfield 69, 3) := by decide +kernel
theorem dX5_clause_120 : decode cX5_clause 120 = .ok (.aload_n 1, 1) := by decide +kernel
theorem dX5_clause_121 : decode cX5_clause 121 = .ok (.getfield 69, 3) := by decide +kernel
theorem dX5_clause_124 : decode cX5_clause 124 = .ok (.ifCond .lt 7, 3) := by decide +kernel
theorem dX5_clause_127 : decode cX5_clause 127 = .ok (.iconst 1, 1) := by decide +kernel
theorem dX5_clause_128 : decode cX5_clause 128 = .ok (.goto 4, 3) := by decide +kernel
theorem dX5_clause_131 : decode cX5_clause 131 = .ok (.iconst 0, 1) := by decide +kernel
theorem dX5_clause_132 : decode cX5_clause 132 = .ok (.ireturn, 1) := by decide +kernel
theorem dX5_clause_133 : decode cX5_clause 133 = .ok (.aload_n 1, 1) := by decide +kernel
theorem dX5_clause_134 : decode cX5_clause 134 = .ok (.aload_n 0, 1) := by decide +kernel
theorem dX5_clause_135 : decode cX5_clause 135 = .ok (.ldc 72, 2) := by decide +kernel
theorem dX5_clause_137 : decode cX5_clause 137 = .ok (.invokevirtual 65, 3) := by decide +kernel
theorem dX5_clause_140 : decode cX5_clause 140 = .ok (.putfield 74, 3) := by decide +kernel
theorem dX5_clause_143 : decode cX5_clause 143 = .ok (.aload_n 1, 1) := by decide +kernel
theorem dX5_clause_144 : decode cX5_clause 144 = .ok (.getfield 74, 3) := by decide +kernel
theorem dX5_clause_147 : decode cX5_clause 147 = .ok (.ifCond .lt 7, 3) := by decide +kernel
theorem dX5_clause_150 : decode cX5_clause 150 = .ok (.iconst 1, 1) := by decide +kernel
theorem dX5_clause_151 : decode cX5_clause 151 = .ok (.goto 4, 3) := by decide +kernel
theorem dX5_clause_154 : decode cX5_clause 154 = .ok (.iconst 0, 1) := by decide +kernel
theorem dX5_clause_155 : decode cX5_clause 155 = .ok (.ireturn, 1) := by decide +kernel
theorem dX5_clause_156 : decode cX5_clause 156 = .ok (.aload_n 0, 1) := by decide +kernel
theorem dX5_clause_157 : decode cX5_clause 157 = .ok (.aload_n 1, 1) := by decide +kernel
theorem dX5_clause_158 : decode cX5_clause 158 = .ok (.iconst 0, 1) := by decide +kernel
theorem dX5_clause_159 : decode cX5_clause 159 = .ok (.invokevirtual 77, 3) := by decide +kernel
theorem dX5_clause_162 : decode cX5_clause 162 = .ok (.ifCond .eq 24, 3) := by decide +kernel
theorem dX5_clause_165 : decode cX5_clause 165 = .ok (.aload_n 0, 1) := by decide +kernel
theorem dX5_clause_166 : decode cX5_clause 166 = .ok (.bipush 32, 2) := by decide +kernel
theorem dX5_clause_168 : decode cX5_clause 168 = .ok (.invokevirtual 31, 3) := by decide +kernel
theorem dX5_clause_171 : decode cX5_clause 171 = .ok (.ifCond .eq 15, 3) := by decide +kernel
theorem dX5_clause_174 : decode cX5_clause 174 = .ok (.aload_n 0, 1) := by decide +kernel
theorem dX5_clause_175 : decode cX5_clause 175 = .ok (.aload_n 1, 1) := by decide +kernel
theorem dX5_clause_176 : decode cX5_clause 176 = .ok (.invokevirtual 81, 3) := by decide +kernel
theorem dX5_clause_179 : decode cX5_clause 179 = .ok (.ifCond .eq 7, 3) := by decide +kernel
theorem dX5_clause_182 : decode cX5_clause 182 = .ok (.iconst 1, 1) := by decide +kernel
theorem dX5_clause_183 : decode cX5_clause 183 = .ok (.goto 4, 3) := by decide +kernel
theorem dX5_clause_186 : decode cX5_clause 186 = .ok (.iconst 0, 1) := by decide +kernel
theorem dX5_clause_187 : decode cX5_clause 187 = .ok (.ireturn, 1) := by decide +kernel
theorem dX5_word_0 : decode cX5_word 0 = .ok (.iconst 0, 1) := by decide +kernel
theorem dX5_word_1 : decode cX5_word 1 = .ok (.istore_n 1, 1) := by decide +kernel
theorem dX5_word_2 : decode cX5_word 2 = .ok (.iload_n 1, 1) := by decide +kernel
theorem dX5_word_3 : decode cX5_word 3 = .ok (.iconst 4, 1) := by decide +kernel
theorem dX5_word_4 : decode cX5_word 4 = .ok (.imul, 1) := by decide +kernel
theorem dX5_word_5 : decode cX5_word 5 = .ok (.ldc 84, 2) := by decide +kernel
theorem dX5_word_7 : decode cX5_word 7 = .ok (.invokevirtual 86, 3) := by decide +kernel
theorem dX5_word_10 : decode cX5_word 10 = .ok (.if_icmp .ge 61, 3) := by decide +kernel
theorem dX5_word_13 : decode cX5_word 13 = .ok (.aload_n 0, 1) := by decide +kernel
theorem dX5_word_14 : decode cX5_word 14 = .ok (.ldc 84, 2) := by decide +kernel
theorem dX5_word_16 : decode cX5_word 16 = .ok (.iload_n 1, 1) := by decide +kernel
theorem dX5_word_17 : decode cX5_word 17 = .ok (.iconst 4, 1) := by decide +kernel
theorem dX5_word_18 : decode cX5_word 18 = .ok (.imul, 1) := by decide +kernel
theorem dX5_word_19 : decode cX5_word 19 = .ok (.invokevirtual 90, 3) := by decide +kernel
theorem dX5_word_22 : decode cX5_word 22 = .ok (.invokevirtual 31, 3) := by decide +kernel
theorem dX5_word_25 : decode cX5_word 25 = .ok (.ifCond .ne 6, 3) := by decide +kernel
theorem dX5_word_28 : decode cX5_word 28 = .ok (.goto 37, 3) := by decide +kernel
theorem dX5_word_31 : decode cX5_word 31 = .ok (.iconst 1, 1) := by decide +kernel
theorem dX5_word_32 : decode cX5_word 32 = .ok (.istore_n 2, 1) := by decide +kernel
theorem dX5_word_33 : decode cX5_word 33 = .ok (.iload_n 2, 1) := by decide +kernel
theorem dX5_word_34 : decode cX5_word 34 = .ok (.iconst 4, 1) := by decide +kernel
theorem dX5_word_35 : decode cX5_word 35 = .ok (.if_icmp .ge 28, 3) := by decide +kernel
theorem dX5_word_38 : decode cX5_word 38 = .ok (.aload_n 0, 1) := by decide +kernel
theorem dX5_word_39 : decode cX5_word 39 = .ok (.ldc 84, 2) := by decide +kernel
theorem dX5_word_41 : decode cX5_word 41 = .ok (.iload_n 1, 1) := by decide +kernel
theorem dX5_word_42 : decode cX5_word 42 = .ok (.iconst 4, 1) := by decide +kernel
theorem dX5_word_43 : decode cX5_word 43 = .ok (.imul, 1) := by decide +kernel
theorem dX5_word_44 : decode cX5_word 44 = .ok (.iload_n 2, 1) := by decide +kernel
theorem dX5_word_45 : decode cX5_word 45 = .ok (.iadd, 1) := by decide +kernel
theorem dX5_word_46 : decode cX5_word 46 = .ok (.invokevirtual 90, 3) := by decide +kernel
theorem dX5_word_49 : decode cX5_word 49 = .ok (.invokevirtual 31, 3) := by decide +kernel
theorem dX5_word_52 : decode cX5_word 52 = .ok (.ifCond .ne 5, 3) := by decide +kernel
theorem dX5_word_55 : decode cX5_word 55 = .ok (.iconst (-1), 1) := by decide +kernel
theorem dX5_word_56 : decode cX5_word 56 = .ok (.ireturn, 1) := by decide +kernel
theorem dX5_word_57 : decode cX5_word 57 = .ok (.iinc 2 1, 3) := by decide +kernel
theorem dX5_word_60 : decode cX5_word 60 = .ok (.goto (-27), 3) := by decide +kernel
theorem dX5_word_63 : decode cX5_word 63 = .ok (.iload_n 1, 1) := by decide +kernel
theorem dX5_word_64 : decode cX5_word 64 = .ok (.ireturn, 1) := by decide +kernel
theorem dX5_word_65 : decode cX5_word 65 = .ok (.iinc 1 1, 3) := by decide +kernel
theorem dX5_word_68 : decode cX5_word 68 = .ok (.goto (-66), 3) := by decide +kernel
theorem dX5_word_71 : decode cX5_word 71 = .ok (.iconst (-1), 1) := by decide +kernel
theorem dX5_word_72 : decode cX5_word 72 = .ok (.ireturn, 1) := by decide +kernel
theorem dX5_pair_0 : decode cX5_pair 0 = .ok (.aload_n 0, 1) := by decide +kernel
theorem dX5_pair_1 : decode cX5_pair 1 = .ok (.iconst 3, 1) := by decide +kernel
theorem dX5_pair_2 : decode cX5_pair 2 = .ok (.invokevirtual 94, 3) := by decide +kernel
theorem dX5_pair_5 : decode cX5_pair 5 = .ok (.istore_n 3, 1) := by decide +kernel
theorem dX5_pair_6 : decode cX5_pair 6 = .ok (.iload_n 3, 1) := by decide +kernel
theorem dX5_pair_7 : decode cX5_pair 7 = .ok (.ifCond .lt 12, 3) := by decide +kernel
theorem dX5_pair_10 : decode cX5_pair 10 = .ok (.aload_n 0, 1) := by decide +kernel
theorem dX5_pair_11 : decode cX5_pair 11 = .ok (.bipush 32, 2) := by decide +kernel
theorem dX5_pair_13 : decode cX5_pair 13 = .ok (.invokevirtual 31, 3) := by decide +kernel
theorem dX5_pair_16 : decode cX5_pair 16 = .ok (.ifCond .ne 5, 3) := by decide +kernel
theorem dX5_pair_19 : decode cX5_pair 19 = .ok (.iconst 0, 1) := by decide +kernel
theorem dX5_pair_20 : decode cX5_pair 20 = .ok (.ireturn, 1) := by decide +kernel
theorem dX5_pair_21 : decode cX5_pair 21 = .ok (.aload_n 0, 1) := by decide +kernel
theorem dX5_pair_22 : decode cX5_pair 22 = .ok (.iload_n 2, 1) := by decide +kernel
theorem dX5_pair_23 : decode cX5_pair 23 = .ok (.iconst 1, 1) := by decide +kernel
theorem dX5_pair_24 : decode cX5_pair 24 = .ok (.isub, 1) := by decide +kernel
theorem dX5_pair_25 : decode cX5_pair 25 = .ok (.invokevirtual 94, 3) := by decide +kernel
theorem dX5_pair_28 : decode cX5_pair 28 = .ok (.istore 4, 2) := by decide +kernel
theorem dX5_pair_30 : decode cX5_pair 30 = .ok (.iload 4, 2) := by decide +kernel
theorem dX5_pair_32 : decode cX5_pair 32 = .ok (.ifCond .lt 12, 3) := by decide +kernel
theorem dX5_pair_35 : decode cX5_pair 35 = .ok (.aload_n 0, 1) := by decide +kernel
theorem dX5_pair_36 : decode cX5_pair 36 = .ok (.bipush 32, 2) := by decide +kernel
theorem dX5_pair_38 : decode cX5_pair 38 = .ok (.invokevirtual 31, 3) := by decide +kernel
theorem dX5_pair_41 : decode cX5_pair 41 = .ok (.ifCond .ne 5, 3) := by decide +kernel
theorem dX5_pair_44 : decode cX5_pair 44 = .ok (.iconst 0, 1) := by decide +kernel
theorem dX5_pair_45 : decode cX5_pair 45 = .ok (.ireturn, 1) := by decide +kernel
theorem dX5_pair_46 : decode cX5_pair 46 = .ok (.aload_n 0, 1) := by decide +kernel
theorem dX5_pair_47 : decode cX5_pair 47 = .ok (.invokevirtual 57, 3) := by decide +kernel
theorem dX5_pair_50 : decode cX5_pair 50 = .ok (.istore 5, 2) := by decide +kernel
theorem dX5_pair_52 : decode cX5_pair 52 = .ok (.iload 5, 2) := by decide +kernel
theorem dX5_pair_54 : decode cX5_pair 54 = .ok (.ifCond .ge 5, 3) := by decide +kernel
theorem dX5_pair_57 : decode cX5_pair 57 = .ok (.iconst 0, 1) := by decide +kernel
theorem dX5_pair_58 : decode cX5_pair 58 = .ok (.ireturn, 1) := by decide +kernel
theorem dX5_pair_59 : decode cX5_pair 59 = .ok (.aload_n 1, 1) := by decide +kernel
theorem dX5_pair_60 : decode cX5_pair 60 = .ok (.iload_n 3, 1) := by decide +kernel
theorem dX5_pair_61 : decode cX5_pair 61 = .ok (.iload_n 2, 1) := by decide +kernel
theorem dX5_pair_62 : decode cX5_pair 62 = .ok (.imul, 1) := by decide +kernel
theorem dX5_pair_63 : decode cX5_pair 63 = .ok (.iload 4, 2) := by decide +kernel
theorem dX5_pair_65 : decode cX5_pair 65 = .ok (.iadd, 1) := by decide +kernel
theorem dX5_pair_66 : decode cX5_pair 66 = .ok (.iload 5, 2) := by decide +kernel
theorem dX5_pair_68 : decode cX5_pair 68 = .ok (.iastore, 1) := by decide +kernel
theorem dX5_pair_69 : decode cX5_pair 69 = .ok (.iconst 1, 1) := by decide +kernel
theorem dX5_pair_70 : decode cX5_pair 70 = .ok (.ireturn, 1) := by decide +kernel
theorem dX5_single_0 : decode cX5_single 0 = .ok (.aload_n 0, 1) := by decide +kernel
theorem dX5_single_1 : decode cX5_single 1 = .ok (.iconst 2, 1) := by decide +kernel
theorem dX5_single_2 : decode cX5_single 2 = .ok (.invokevirtual 94, 3) := by decide +kernel
theorem dX5_single_5 : decode cX5_single 5 = .ok (.istore_n 2, 1) := by decide +kernel
theorem dX5_single_6 : decode cX5_single 6 = .ok (.iload_n 2, 1) := by decide +kernel
theorem dX5_single_7 : decode cX5_single 7 = .ok (.ifCond .lt 12, 3) := by decide +kernel
theorem dX5_single_10 : decode cX5_single 10 = .ok (.aload_n 0, 1) := by decide +kernel
theorem dX5_single_11 : decode cX5_single 11 = .ok (.bipush 32, 2) := by decide +kernel
theorem dX5_single_13 : decode cX5_single 13 = .ok (.invokevirtual 31, 3) := by decide +kernel
theorem dX5_single_16 : decode cX5_single 16 = .ok (.ifCond .ne 5, 3) := by decide +kernel
theorem dX5_single_19 : decode cX5_single 19 = .ok (.iconst 0, 1) := by decide +kernel
theorem dX5_single_20 : decode cX5_single 20 = .ok (.ireturn, 1) := by decide +kernel
theorem dX5_single_21 : decode cX5_single 21 = .ok (.aload_n 0, 1) := by decide +kernel
theorem dX5_single_22 : decode cX5_single 22 = .ok (.invokevirtual 57, 3) := by decide +kernel
theorem dX5_single_25 : decode cX5_single 25 = .ok (.istore_n 3, 1) := by decide +kernel
theorem dX5_single_26 : decode cX5_single 26 = .ok (.iload_n 3, 1) := by decide +kernel
theorem dX5_single_27 : decode cX5_single 27 = .ok (.ifCond .ge 5, 3) := by decide +kernel
theorem dX5_single_30 : decode cX5_single 30 = .ok (.iconst 0, 1) := by decide +kernel
theorem dX5_single_31 : decode cX5_single 31 = .ok (.ireturn, 1) := by decide +kernel
theorem dX5_single_32 : decode cX5_single 32 = .ok (.aload_n 1, 1) := by decide +kernel
theorem dX5_single_33 : decode cX5_single 33 = .ok (.iload_n 2, 1) := by decide +kernel
theorem dX5_single_34 : decode cX5_single 34 = .ok (.iload_n 3, 1) := by decide +kernel
theorem dX5_single_35 : decode cX5_single 35 = .ok (.iastore, 1) := by decide +kernel
theorem dX5_single_36 : decode cX5_single 36 = .ok (.iconst 1, 1) := by decide +kernel
theorem dX5_single_37 : decode cX5_single 37 = .ok (.ireturn, 1) := by decide +kernel
theorem dX5_weight_0 : decode cX5_weight 0 = .ok (.aload_n 0, 1) := by decide +kernel
theorem dX5_weight_1 : decode cX5_weight 1 = .ok (.invokevirtual 57, 3) := by decide +kernel
theorem dX5_weight_4 : decode cX5_weight 4 = .ok (.istore_n 2, 1) := by decide +kernel
theorem dX5_weight_5 : decode cX5_weight 5 = .ok (.iload_n 2, 1) := by decide +kernel
theorem dX5_weight_6 : decode cX5_weight 6 = .ok (.ifCond .ge 5, 3) := by decide +kernel
theorem dX5_weight_9 : decode cX5_weight 9 = .ok (.iconst 0, 1) := by decide +kernel
theorem dX5_weight_10 : decode cX5_weight 10 = .ok (.ireturn, 1) := by decide +kernel
theorem dX5_weight_11 : decode cX5_weight 11 = .ok (.aload_n 1, 1) := by decide +kernel
theorem dX5_weight_12 : decode cX5_weight 12 = .ok (.bipush 15, 2) := by decide +kernel
theorem dX5_weight_14 : decode cX5_weight 14 = .ok (.iload_n 2, 1) := by decide +kernel
theorem dX5_weight_15 : decode cX5_weight 15 = .ok (.invokevirtual 98, 3) := by decide +kernel
theorem dX5_weight_18 : decode cX5_weight 18 = .ok (.iconst 1, 1) := by decide +kernel
theorem dX5_weight_19 : decode cX5_weight 19 = .ok (.ireturn, 1) := by decide +kernel
theorem dX5_either_0 : decode cX5_either 0 = .ok (.iconst 1, 1) := by decide +kernel
theorem dX5_either_1 : decode cX5_either 1 = .ok (.istore_n 3, 1) := by decide +kernel
theorem dX5_either_2 : decode cX5_either 2 = .ok (.iconst 1, 1) := by decide +kernel
theorem dX5_either_3 : decode cX5_either 3 = .ok (.istore 4, 2) := by decide +kernel
theorem dX5_either_5 : decode cX5_either 5 = .ok (.iconst 0, 1) := by decide +kernel
theorem dX5_either_6 : decode cX5_either 6 = .ok (.istore 5, 2) := by decide +kernel
theorem dX5_either_8 : decode cX5_either 8 = .ok (.iload 5, 2) := by decide +kernel
theorem dX5_either_10 : decode cX5_either 10 = .ok (.bipush 120, 2) := by decide +kernel
theorem dX5_either_12 : decode cX5_either 12 = .ok (.if_icmp .ge 74, 3) := by decide +kernel
theorem dX5_either_15 : decode cX5_either 15 = .ok (.aload_n 0, 1) := by decide +kernel
theorem dX5_either_16 : decode cX5_either 16 = .ok (.aload_n 1, 1) := by decide +kernel
theorem dX5_either_17 : decode cX5_either 17 = .ok (.iload_n 2, 1) := by decide +kernel
theorem dX5_either_18 : decode cX5_either 18 = .ok (.invokevirtual 102, 3) := by decide +kernel
theorem dX5_either_21 : decode cX5_either 21 = .ok (.ifCond .ne 5, 3) := by decide +kernel
theorem dX5_either_24 : decode cX5_either 24 = .ok (.iconst 0, 1) := by decide +kernel
theorem dX5_either_25 : decode cX5_either 25 = .ok (.ireturn, 1) := by decide +kernel
theorem dX5_either_26 : decode cX5_either 26 = .ok (.iload 4, 2) := by decide +kernel
theorem dX5_either_28 : decode cX5_either 28 = .ok (.ifCond .ne 10, 3) := by decide +kernel
theorem dX5_either_31 : decode cX5_either 31 = .ok (.aload_n 1, 1) := by decide +kernel
theorem dX5_either_32 : decode cX5_either 32 = .ok (.bipush 13, 2) := by decide +kernel
theorem dX5_either_34 : decode cX5_either 34 = .ok (.iconst 0, 1) := by decide +kernel
theorem dX5_either_35 : decode cX5_either 35 = .ok (.invokevirtual 98, 3) := by decide +kernel
theorem dX5_either_38 : decode cX5_either 38 = .ok (.iconst 0, 1) := by decide +kernel
theorem dX5_either_39 : decode cX5_either 39 = .ok (.istore 4, 2) := by decide +kernel
theorem dX5_either_41 : decode cX5_either 41 = .ok (.aload_n 0, 1) := by decide +kernel
theorem dX5_either_42 : decode cX5_either 42 = .ok (.bipush 38, 2) := by decide +kernel
theorem dX5_either_44 : decode cX5_either 44 = .ok (.invokevirtual 31, 3) := by decide +kernel
theorem dX5_either_47 : decode cX5_either 47 = .ok (.ifCond .eq 6, 3) := by decide +kernel
theorem dX5_either_50 : decode cX5_either 50 = .ok (.goto 30, 3) := by decide +kernel
theorem dX5_either_53 : decode cX5_either 53 = .ok (.iload_n 3, 1) := by decide +kernel
theorem dX5_either_54 : decode cX5_either 54 = .ok (.ifCond .ne 10, 3) := by decide +kernel
theorem dX5_either_57 : decode cX5_either 57 = .ok (.aload_n 1, 1) := by decide +kernel
theorem dX5_either_58 : decode cX5_either 58 = .ok (.bipush 14, 2) := by decide +kernel
theorem dX5_either_60 : decode cX5_either 60 = .ok (.iconst 0, 1) := by decide +kernel
theorem dX5_either_61 : decode cX5_either 61 = .ok (.invokevirtual 98, 3) := by decide +kernel
theorem dX5_either_64 : decode cX5_either 64 = .ok (.iconst 0, 1) := by decide +kernel
theorem dX5_either_65 : decode cX5_either 65 = .ok (.istore_n 3, 1) := by decide +kernel
theorem dX5_either_66 : decode cX5_either 66 = .ok (.iconst 1, 1) := by decide +kernel
theorem dX5_either_67 : decode cX5_either 67 = .ok (.istore 4, 2) := by decide +kernel
theorem dX5_either_69 : decode cX5_either 69 = .ok (.aload_n 0, 1) := by decide +kernel
theorem dX5_either_70 : decode cX5_either 70 = .ok (.bipush 124, 2) := by decide +kernel
theorem dX5_either_72 : decode cX5_either 72 = .ok (.invokevirtual 31, 3) := by decide +kernel
theorem dX5_either_75 : decode cX5_either 75 = .ok (.ifCond .ne 5, 3) := by decide +kernel
theorem dX5_either_78 : decode cX5_either 78 = .ok (.iconst 1, 1) := by decide +kernel
theorem dX5_either_79 : decode cX5_either 79 = .ok (.ireturn, 1) := by decide +kernel
theorem dX5_either_80 : decode cX5_either 80 = .ok (.iinc 5 1, 3) := by decide +kernel
theorem dX5_either_83 : decode cX5_either 83 = .ok (.goto (-75), 3) := by decide +kernel
theorem dX5_either_86 : decode cX5_either 86 = .ok (.iconst 0, 1) := by decide +kernel
theorem dX5_either_87 : decode cX5_either 87 = .ok (.ireturn, 1) := by decide +kernel
theorem dX5_factor_0 : decode cX5_factor 0 = .ok (.aload_n 0, 1) := by decide +kernel
theorem dX5_factor_1 : decode cX5_factor 1 = .ok (.getfield 24, 3) := by decide +kernel
theorem dX5_factor_4 : decode cX5_factor 4 = .ok (.aload_n 0, 1) := by decide +kernel
theorem dX5_factor_5 : decode cX5_factor 5 = .ok (.getfield 15, 3) := by decide +kernel
theorem dX5_factor_8 : decode cX5_factor 8 = .ok (.if_icmp .ge 35, 3) := by decide +kernel
theorem dX5_factor_11 : decode cX5_factor 11 = .ok (.aload_n 0, 1) := by decide +kernel
theorem dX5_factor_12 : decode cX5_factor 12 = .ok (.getfield 11, 3) := by decide +kernel
theorem dX5_factor_15 : decode cX5_factor 15 = .ok (.aload_n 0, 1) := by decide +kernel
theorem dX5_factor_16 : decode cX5_factor 16 = .ok (.getfield 24, 3) := by decide +kernel
theorem dX5_factor_19 : decode cX5_factor 19 = .ok (.caload, 1) := by decide +kernel
theorem dX5_factor_20 : decode cX5_factor 20 = .ok (.bipush 33, 2) := by decide +kernel
theorem dX5_factor_22 : decode cX5_factor 22 = .ok (.if_icmp .eq 17, 3) := by decide +kernel
theorem dX5_factor_25 : decode cX5_factor 25 = .ok (.aload_n 0, 1) := by decide +kernel
theorem dX5_factor_26 : decode cX5_factor 26 = .ok (.getfield 11, 3) := by decide +kernel
theorem dX5_factor_29 : decode cX5_factor 29 = .ok (.aload_n 0, 1) := by decide +kernel
theorem dX5_factor_30 : decode cX5_factor 30 = .ok (.getfield 24, 3) := by decide +kernel
theorem dX5_factor_33 : decode cX5_factor 33 = .ok (.caload, 1) := by decide +kernel
theorem dX5_factor_34 : decode cX5_factor 34 = .ok (.bipush 40, 2) := by decide +kernel
theorem dX5_factor_36 : decode cX5_factor 36 = .ok (.if_icmp .ne 7, 3) := by decide +kernel
theorem dX5_factor_39 : decode cX5_factor 39 = .ok (.iconst 1, 1) := by decide +kernel
theorem dX5_factor_40 : decode cX5_factor 40 = .ok (.goto 4, 3) := by decide +kernel
theorem dX5_factor_43 : decode cX5_factor 43 = .ok (.iconst 0, 1) := by decide +kernel
theorem dX5_factor_44 : decode cX5_factor 44 = .ok (.istore_n 3, 1) := by decide +kernel
theorem dX5_factor_45 : decode cX5_factor 45 = .ok (.iload_n 3, 1) := by decide +kernel
theorem dX5_factor_46 : decode cX5_factor 46 = .ok (.ifCond .eq 10, 3) := by decide +kernel
theorem dX5_factor_49 : decode cX5_factor 49 = .ok (.iload_n 2, 1) := by decide +kernel
theorem dX5_factor_50 : decode cX5_factor 50 = .ok (.iconst 4, 1) := by decide +kernel
theorem dX5_factor_51 : decode cX5_factor 51 = .ok (.if_icmp .lt 5, 3) := by decide +kernel
theorem dX5_factor_54 : decode cX5_factor 54 = .ok (.iconst 0, 1) := by decide +kernel
theorem dX5_factor_55 : decode cX5_factor 55 = .ok (.ireturn, 1) := by decide +kernel
theorem dX5_factor_56 : decode cX5_factor 56 = .ok (.aload_n 0, 1) := by decide +kernel
theorem dX5_factor_57 : decode cX5_factor 57 = .ok (.bipush 33, 2) := by decide +kernel
theorem dX5_factor_59 : decode cX5_factor 59 = .ok (.invokevirtual 31, 3) := by decide +kernel
theorem dX5_factor_62 : decode cX5_factor 62 = .ok (.ifCond .eq 25, 3) := by decide +kernel
theorem dX5_factor_65 : decode cX5_factor 65 = .ok (.aload_n 0, 1) := by decide +kernel
theorem dX5_factor_66 : decode cX5_factor 66 = .ok (.aload_n 1, 1) := by decide +kernel
theorem dX5_factor_67 : decode cX5_factor 67 = .ok (.iload_n 2, 1) := by decide +kernel
theorem dX5_factor_68 : decode cX5_factor 68 = .ok (.iconst 1, 1) := by decide +kernel
theorem dX5_factor_69 : decode cX5_factor 69 = .ok (.iadd, 1) := by decide +kernel
theorem dX5_factor_70 : decode cX5_factor 70 = .ok (.invokevirtual 102, 3) := by decide +kernel
theorem dX5_factor_73 : decode cX5_factor 73 = .ok (.ifCond .ne 5, 3) := by decide +kernel
theorem dX5_factor_76 : decode cX5_factor 76 = .ok (.iconst 0, 1) := by decide +kernel
theorem dX5_factor_77 : decode cX5_factor 77 = .ok (.ireturn, 1) := by decide +kernel
theorem dX5_factor_78 : decode cX5_factor 78 = .ok (.aload_n 1, 1) := by decide +kernel
theorem dX5_factor_79 : decode cX5_factor 79 = .ok (.bipush 12, 2) := by decide +kernel
theorem dX5_factor_81 : decode cX5_factor 81 = .ok (.iconst 0, 1) := by decide +kernel
theorem dX5_factor_82 : decode cX5_factor 82 = .ok (.invokevirtual 98, 3) := by decide +kernel
theorem dX5_factor_85 : decode cX5_factor 85 = .ok (.iconst 1, 1) := by decide +kernel
theorem dX5_factor_86 : decode cX5_factor 86 = .ok (.ireturn, 1) := by decide +kernel
theorem dX5_factor_87 : decode cX5_factor 87 = .ok (.aload_n 0, 1) := by decide +kernel
theorem dX5_factor_88 : decode cX5_factor 88 = .ok (.bipush 40, 2) := by decide +kernel
theorem dX5_factor_90 : decode cX5_factor 90 = .ok (.invokevirtual 31, 3) := by decide +kernel
theorem dX5_factor_93 : decode cX5_factor 93 = .ok (.ifCond .eq 29, 3) := by decide +kernel
theorem dX5_factor_96 : decode cX5_factor 96 = .ok (.aload_n 0, 1) := by decide +kernel
theorem dX5_factor_97 : decode cX5_factor 97 = .ok (.aload_n 1, 1) := by decide +kernel
theorem dX5_factor_98 : decode cX5_factor 98 = .ok (.iload_n 2, 1) := by decide +kernel
theorem dX5_factor_99 : decode cX5_factor 99 = .ok (.iconst 1, 1) := by decide +kernel
theorem dX5_factor_100 : decode cX5_factor 100 = .ok (.iadd, 1) := by decide +kernel
theorem dX5_factor_101 : decode cX5_factor 101 = .ok (.invokevirtual 77, 3) := by decide +kernel
theorem dX5_factor_104 : decode cX5_factor 104 = .ok (.ifCond .eq 16, 3) := by decide +kernel
theorem dX5_factor_107 : decode cX5_factor 107 = .ok (.aload_n 0, 1) := by decide +kernel
theorem dX5_factor_108 : decode cX5_factor 108 = .ok (.bipush 41, 2) := by decide +kernel
theorem dX5_factor_110 : decode cX5_factor 110 = .ok (.invokevirtual 31, 3) := by decide +kernel
theorem dX5_factor_113 : decode cX5_factor 113 = .ok (.ifCond .eq 7, 3) := by decide +kernel
theorem dX5_factor_116 : decode cX5_factor 116 = .ok (.iconst 1, 1) := by decide +kernel
theorem dX5_factor_117 : decode cX5_factor 117 = .ok (.goto 4, 3) := by decide +kernel
theorem dX5_factor_120 : decode cX5_factor 120 = .ok (.iconst 0, 1) := by decide +kernel
theorem dX5_factor_121 : decode cX5_factor 121 = .ok (.ireturn, 1) := by decide +kernel
theorem dX5_factor_122 : decode cX5_factor 122 = .ok (.aload_n 0, 1) := by decide +kernel
theorem dX5_factor_123 : decode cX5_factor 123 = .ok (.aload_n 1, 1) := by decide +kernel
theorem dX5_factor_124 : decode cX5_factor 124 = .ok (.invokevirtual 105, 3) := by decide +kernel
theorem dX5_factor_127 : decode cX5_factor 127 = .ok (.ireturn, 1) := by decide +kernel
theorem dX5_test_0 : decode cX5_test 0 = .ok (.aload_n 0, 1) := by decide +kernel
theorem dX5_test_1 : decode cX5_test 1 = .ok (.ldc 108, 2) := by decide +kernel
theorem dX5_test_3 : decode cX5_test 3 = .ok (.invokevirtual 65, 3) := by decide +kernel
theorem dX5_test_6 : decode cX5_test 6 = .ok (.istore_n 2, 1) := by decide +kernel
theorem dX5_test_7 : decode cX5_test 7 = .ok (.iload_n 2, 1) := by decide +kernel
theorem dX5_test_8 : decode cX5_test 8 = .ok (.ifCond .ge 5, 3) := by decide +kernel
theorem dX5_test_11 : decode cX5_test 11 = .ok (.iconst 0, 1) := by decide +kernel
theorem dX5_test_12 : decode cX5_test 12 = .ok (.ireturn, 1) := by decide +kernel
theorem dX5_test_13 : decode cX5_test 13 = .ok (.aload_n 0, 1) := by decide +kernel
theorem dX5_test_14 : decode cX5_test 14 = .ok (.ldc 110, 2) := by decide +kernel
theorem dX5_test_16 : decode cX5_test 16 = .ok (.invokevirtual 65, 3) := by decide +kernel
theorem dX5_test_19 : decode cX5_test 19 = .ok (.istore_n 3, 1) := by decide +kernel
theorem dX5_test_20 : decode cX5_test 20 = .ok (.iload_n 3, 1) := by decide +kernel
theorem dX5_test_21 : decode cX5_test 21 = .ok (.ifCond .ge 5, 3) := by decide +kernel
theorem dX5_test_24 : decode cX5_test 24 = .ok (.iconst 0, 1) := by decide +kernel
theorem dX5_test_25 : decode cX5_test 25 = .ok (.ireturn, 1) := by decide +kernel
theorem dX5_test_26 : decode cX5_test 26 = .ok (.aload_n 0, 1) := by decide +kernel
theorem dX5_test_27 : decode cX5_test 27 = .ok (.invokevirtual 57, 3) := by decide +kernel
theorem dX5_test_30 : decode cX5_test 30 = .ok (.istore 4, 2) := by decide +kernel
theorem dX5_test_32 : decode cX5_test 32 = .ok (.iload 4, 2) := by decide +kernel
theorem dX5_test_34 : decode cX5_test 34 = .ok (.ifCond .ge 5, 3) := by decide +kernel
theorem dX5_test_37 : decode cX5_test 37 = .ok (.iconst 0, 1) := by decide +kernel
theorem dX5_test_38 : decode cX5_test 38 = .ok (.ireturn, 1) := by decide +kernel
theorem dX5_test_39 : decode cX5_test 39 = .ok (.aload_n 1, 1) := by decide +kernel
theorem dX5_test_40 : decode cX5_test 40 = .ok (.iload_n 2, 1) := by decide +kernel
theorem dX5_test_41 : decode cX5_test 41 = .ok (.iconst 3, 1) := by decide +kernel
theorem dX5_test_42 : decode cX5_test 42 = .ok (.imul, 1) := by decide +kernel
theorem dX5_test_43 : decode cX5_test 43 = .ok (.iload_n 3, 1) := by decide +kernel
theorem dX5_test_44 : decode cX5_test 44 = .ok (.iadd, 1) := by decide +kernel
theorem dX5_test_45 : decode cX5_test 45 = .ok (.iload 4, 2) := by decide +kernel
theorem dX5_test_47 : decode cX5_test 47 = .ok (.invokevirtual 98, 3) := by decide +kernel
theorem dX5_test_50 : decode cX5_test 50 = .ok (.iconst 1, 1) := by decide +kernel
theorem dX5_test_51 : decode cX5_test 51 = .ok (.ireturn, 1) := by decide +kernel
theorem dX5_met_0 : decode cX5_met 0 = .ok (.aload_n 0, 1) := by decide +kernel
theorem dX5_met_1 : decode cX5_met 1 = .ok (.getfield 24, 3) := by decide +kernel
theorem dX5_met_4 : decode cX5_met 4 = .ok (.aload_n 0, 1) := by decide +kernel
theorem dX5_met_5 : decode cX5_met 5 = .ok (.getfield 15, 3) := by decide +kernel
theorem dX5_met_8 : decode cX5_met 8 = .ok (.if_icmp .ge 28, 3) := by decide +kernel
theorem dX5_met_11 : decode cX5_met 11 = .ok (.aload_n 0, 1) := by decide +kernel
theorem dX5_met_12 : decode cX5_met 12 = .ok (.getfield 11, 3) := by decide +kernel
theorem dX5_met_15 : decode cX5_met 15 = .ok (.aload_n 0, 1) := by decide +kernel
theorem dX5_met_16 : decode cX5_met 16 = .ok (.getfield 24, 3) := by decide +kernel
theorem dX5_met_19 : decode cX5_met 19 = .ok (.caload, 1) := by decide +kernel
theorem dX5_met_20 : decode cX5_met 20 = .ok (.iload_n 1, 1) := by decide +kernel
theorem dX5_met_21 : decode cX5_met 21 = .ok (.if_icmp .ne 15, 3) := by decide +kernel
theorem dX5_met_24 : decode cX5_met 24 = .ok (.aload_n 0, 1) := by decide +kernel
theorem dX5_met_25 : decode cX5_met 25 = .ok (.dup, 1) := by decide +kernel
theorem dX5_met_26 : decode cX5_met 26 = .ok (.getfield 24, 3) := by decide +kernel
theorem dX5_met_29 : decode cX5_met 29 = .ok (.iconst 1, 1) := by decide +kernel
theorem dX5_met_30 : decode cX5_met 30 = .ok (.iadd, 1) := by decide +kernel
theorem dX5_met_31 : decode cX5_met 31 = .ok (.putfield 24, 3) := by decide +kernel
theorem dX5_met_34 : decode cX5_met 34 = .ok (.iconst 1, 1) := by decide +kernel
theorem dX5_met_35 : decode cX5_met 35 = .ok (.ireturn, 1) := by decide +kernel
theorem dX5_met_36 : decode cX5_met 36 = .ok (.iconst 0, 1) := by decide +kernel
theorem dX5_met_37 : decode cX5_met 37 = .ok (.ireturn, 1) := by decide +kernel
theorem dX5_letter_0 : decode cX5_letter 0 = .ok (.aload_n 0, 1) := by decide +kernel
theorem dX5_letter_1 : decode cX5_letter 1 = .ok (.getfield 24, 3) := by decide +kernel
theorem dX5_letter_4 : decode cX5_letter 4 = .ok (.aload_n 0, 1) := by decide +kernel
theorem dX5_letter_5 : decode cX5_letter 5 = .ok (.getfield 15, 3) := by decide +kernel
theorem dX5_letter_8 : decode cX5_letter 8 = .ok (.if_icmp .ge 19, 3) := by decide +kernel
theorem dX5_letter_11 : decode cX5_letter 11 = .ok (.aload_n 1, 1) := by decide +kernel
theorem dX5_letter_12 : decode cX5_letter 12 = .ok (.aload_n 0, 1) := by decide +kernel
theorem dX5_letter_13 : decode cX5_letter 13 = .ok (.getfield 11, 3) := by decide +kernel
theorem dX5_letter_16 : decode cX5_letter 16 = .ok (.aload_n 0, 1) := by decide +kernel
theorem dX5_letter_17 : decode cX5_letter 17 = .ok (.getfield 24, 3) := by decide +kernel
theorem dX5_letter_20 : decode cX5_letter 20 = .ok (.caload, 1) := by decide +kernel
theorem dX5_letter_21 : decode cX5_letter 21 = .ok (.invokevirtual 112, 3) := by decide +kernel
theorem dX5_letter_24 : decode cX5_letter 24 = .ok (.goto 4, 3) := by decide +kernel
theorem dX5_letter_27 : decode cX5_letter 27 = .ok (.iconst (-1), 1) := by decide +kernel
theorem dX5_letter_28 : decode cX5_letter 28 = .ok (.istore_n 2, 1) := by decide +kernel
theorem dX5_letter_29 : decode cX5_letter 29 = .ok (.iload_n 2, 1) := by decide +kernel
theorem dX5_letter_30 : decode cX5_letter 30 = .ok (.ifCond .lt 13, 3) := by decide +kernel
theorem dX5_letter_33 : decode cX5_letter 33 = .ok (.aload_n 0, 1) := by decide +kernel
theorem dX5_letter_34 : decode cX5_letter 34 = .ok (.dup, 1) := by decide +kernel
theorem dX5_letter_35 : decode cX5_letter 35 = .ok (.getfield 24, 3) := by decide +kernel
theorem dX5_letter_38 : decode cX5_letter 38 = .ok (.iconst 1, 1) := by decide +kernel
theorem dX5_letter_39 : decode cX5_letter 39 = .ok (.iadd, 1) := by decide +kernel
theorem dX5_letter_40 : decode cX5_letter 40 = .ok (.putfield 24, 3) := by decide +kernel
theorem dX5_letter_43 : decode cX5_letter 43 = .ok (.iload_n 2, 1) := by decide +kernel
theorem dX5_letter_44 : decode cX5_letter 44 = .ok (.ireturn, 1) := by decide +kernel
theorem dX5_figure_0 : decode cX5_figure 0 = .ok (.aload_n 0, 1) := by decide +kernel
theorem dX5_figure_1 : decode cX5_figure 1 = .ok (.getfield 24, 3) := by decide +kernel
theorem dX5_figure_4 : decode cX5_figure 4 = .ok (.aload_n 0, 1) := by decide +kernel
theorem dX5_figure_5 : decode cX5_figure 5 = .ok (.getfield 15, 3) := by decide +kernel
theorem dX5_figure_8 : decode cX5_figure 8 = .ok (.if_icmp .ge 53, 3) := by decide +kernel
theorem dX5_figure_11 : decode cX5_figure 11 = .ok (.aload_n 0, 1) := by decide +kernel
theorem dX5_figure_12 : decode cX5_figure 12 = .ok (.getfield 11, 3) := by decide +kernel
theorem dX5_figure_15 : decode cX5_figure 15 = .ok (.aload_n 0, 1) := by decide +kernel
theorem dX5_figure_16 : decode cX5_figure 16 = .ok (.getfield 24, 3) := by decide +kernel
theorem dX5_figure_19 : decode cX5_figure 19 = .ok (.caload, 1) := by decide +kernel
theorem dX5_figure_20 : decode cX5_figure 20 = .ok (.bipush 48, 2) := by decide +kernel
theorem dX5_figure_22 : decode cX5_figure 22 = .ok (.if_icmp .lt 39, 3) := by decide +kernel
theorem dX5_figure_25 : decode cX5_figure 25 = .ok (.aload_n 0, 1) := by decide +kernel
theorem dX5_figure_26 : decode cX5_figure 26 = .ok (.getfield 11, 3) := by decide +kernel
theorem dX5_figure_29 : decode cX5_figure 29 = .ok (.aload_n 0, 1) := by decide +kernel
theorem dX5_figure_30 : decode cX5_figure 30 = .ok (.getfield 24, 3) := by decide +kernel
theorem dX5_figure_33 : decode cX5_figure 33 = .ok (.caload, 1) := by decide +kernel
theorem dX5_figure_34 : decode cX5_figure 34 = .ok (.bipush 48, 2) := by decide +kernel
theorem dX5_figure_36 : decode cX5_figure 36 = .ok (.iload_n 1, 1) := by decide +kernel
theorem dX5_figure_37 : decode cX5_figure 37 = .ok (.iadd, 1) := by decide +kernel
theorem dX5_figure_38 : decode cX5_figure 38 = .ok (.if_icmp .gt 23, 3) := by decide +kernel
theorem dX5_figure_41 : decode cX5_figure 41 = .ok (.aload_n 0, 1) := by decide +kernel
theorem dX5_figure_42 : decode cX5_figure 42 = .ok (.getfield 11, 3) := by decide +kernel
theorem dX5_figure_45 : decode cX5_figure 45 = .ok (.aload_n 0, 1) := by decide +kernel
theorem dX5_figure_46 : decode cX5_figure 46 = .ok (.dup, 1) := by decide +kernel
theorem dX5_figure_47 : decode cX5_figure 47 = .ok (.getfield 24, 3) := by decide +kernel
theorem dX5_figure_50 : decode cX5_figure 50 = .ok (.dup_x1, 1) := by decide +kernel
theorem dX5_figure_51 : decode cX5_figure 51 = .ok (.iconst 1, 1) := by decide +kernel
theorem dX5_figure_52 : decode cX5_figure 52 = .ok (.iadd, 1) := by decide +kernel
theorem dX5_figure_53 : decode cX5_figure 53 = .ok (.putfield 24, 3) := by decide +kernel
theorem dX5_figure_56 : decode cX5_figure 56 = .ok (.caload, 1) := by decide +kernel
theorem dX5_figure_57 : decode cX5_figure 57 = .ok (.bipush 48, 2) := by decide +kernel
theorem dX5_figure_59 : decode cX5_figure 59 = .ok (.isub, 1) := by decide +kernel
theorem dX5_figure_60 : decode cX5_figure 60 = .ok (.ireturn, 1) := by decide +kernel
theorem dX5_figure_61 : decode cX5_figure 61 = .ok (.iconst (-1), 1) := by decide +kernel
theorem dX5_figure_62 : decode cX5_figure 62 = .ok (.ireturn, 1) := by decide +kernel
theorem dX5_number_0 : decode cX5_number 0 = .ok (.iconst (-1), 1) := by decide +kernel
theorem dX5_number_1 : decode cX5_number 1 = .ok (.istore_n 1, 1) := by decide +kernel
theorem dX5_number_2 : decode cX5_number 2 = .ok (.iconst 0, 1) := by decide +kernel
theorem dX5_number_3 : decode cX5_number 3 = .ok (.istore_n 2, 1) := by decide +kernel
theorem dX5_number_4 : decode cX5_number 4 = .ok (.iload_n 2, 1) := by decide +kernel
theorem dX5_number_5 : decode cX5_number 5 = .ok (.iconst 3, 1) := by decide +kernel
theorem dX5_number_6 : decode cX5_number 6 = .ok (.if_icmp .ge 83, 3) := by decide +kernel
theorem dX5_number_9 : decode cX5_number 9 = .ok (.aload_n 0, 1) := by decide +kernel
theorem dX5_number_10 : decode cX5_number 10 = .ok (.getfield 24, 3) := by decide +kernel
theorem dX5_number_13 : decode cX5_number 13 = .ok (.aload_n 0, 1) := by decide +kernel
theorem dX5_number_14 : decode cX5_number 14 = .ok (.getfield 15, 3) := by decide +kernel
theorem dX5_number_17 : decode cX5_number 17 = .ok (.if_icmp .ge 72, 3) := by decide +kernel
theorem dX5_number_20 : decode cX5_number 20 = .ok (.aload_n 0, 1) := by decide +kernel
theorem dX5_number_21 : decode cX5_number 21 = .ok (.getfield 11, 3) := by decide +kernel
theorem dX5_number_24 : decode cX5_number 24 = .ok (.aload_n 0, 1) := by decide +kernel
theorem dX5_number_25 : decode cX5_number 25 = .ok (.getfield 24, 3) := by decide +kernel
theorem dX5_number_28 : decode cX5_number 28 = .ok (.caload, 1) := by decide +kernel
theorem dX5_number_29 : decode cX5_number 29 = .ok (.bipush 48, 2) := by decide +kernel
theorem dX5_number_31 : decode cX5_number 31 = .ok (.if_icmp .lt 17, 3) := by decide +kernel
theorem dX5_number_34 : decode cX5_number 34 = .ok (.aload_n 0, 1) := by decide +kernel
theorem dX5_number_35 : decode cX5_number 35 = .ok (.getfield 11, 3) := by decide +kernel
theorem dX5_number_38 : decode cX5_number 38 = .ok (.aload_n 0, 1) := by decide +kernel
theorem dX5_number_39 : decode cX5_number 39 = .ok (.getfield 24, 3) := by decide +kernel
theorem dX5_number_42 : decode cX5_number 42 = .ok (.caload, 1) := by decide +kernel
theorem dX5_number_43 : decode cX5_number 43 = .ok (.bipush 57, 2) := by decide +kernel
theorem dX5_number_45 : decode cX5_number 45 = .ok (.if_icmp .le 5, 3) := by decide +kernel
theorem dX5_number_48 : decode cX5_number 48 = .ok (.iload_n 1, 1) := by decide +kernel
theorem dX5_number_49 : decode cX5_number 49 = .ok (.ireturn, 1) := by decide +kernel
theorem dX5_number_50 : decode cX5_number 50 = .ok (.iload_n 1, 1) := by decide +kernel
theorem dX5_number_51 : decode cX5_number 51 = .ok (.ifCond .ge 7, 3) := by decide +kernel
theorem dX5_number_54 : decode cX5_number 54 = .ok (.iconst 0, 1) := by decide +kernel
theorem dX5_number_55 : decode cX5_number 55 = .ok (.goto 4, 3) := by decide +kernel
theorem dX5_number_58 : decode cX5_number 58 = .ok (.iload_n 1, 1) := by decide +kernel
theorem dX5_number_59 : decode cX5_number 59 = .ok (.bipush 10, 2) := by decide +kernel
theorem dX5_number_61 : decode cX5_number 61 = .ok (.imul, 1) := by decide +kernel
theorem dX5_number_62 : decode cX5_number 62 = .ok (.aload_n 0, 1) := by decide +kernel
theorem dX5_number_63 : decode cX5_number 63 = .ok (.getfield 11, 3) := by decide +kernel
theorem dX5_number_66 : decode cX5_number 66 = .ok (.aload_n 0, 1) := by decide +kernel
theorem dX5_number_67 : decode cX5_number 67 = .ok (.dup, 1) := by decide +kernel
theorem dX5_number_68 : decode cX5_number 68 = .ok (.getfield 24, 3) := by decide +kernel
theorem dX5_number_71 : decode cX5_number 71 = .ok (.dup_x1, 1) := by decide +kernel
theorem dX5_number_72 : decode cX5_number 72 = .ok (.iconst 1, 1) := by decide +kernel
theorem dX5_number_73 : decode cX5_number 73 = .ok (.iadd, 1) := by decide +kernel
theorem dX5_number_74 : decode cX5_number 74 = .ok (.putfield 24, 3) := by decide +kernel
theorem dX5_number_77 : decode cX5_number 77 = .ok (.caload, 1) := by decide +kernel
theorem dX5_number_78 : decode cX5_number 78 = .ok (.iadd, 1) := by decide +kernel
theorem dX5_number_79 : decode cX5_number 79 = .ok (.bipush 48, 2) := by decide +kernel
theorem dX5_number_81 : decode cX5_number 81 = .ok (.isub, 1) := by decide +kernel
theorem dX5_number_82 : decode cX5_number 82 = .ok (.istore_n 1, 1) := by decide +kernel
theorem dX5_number_83 : decode cX5_number 83 = .ok (.iinc 2 1, 3) := by decide +kernel
theorem dX5_number_86 : decode cX5_number 86 = .ok (.goto (-82), 3) := by decide +kernel
theorem dX5_number_89 : decode cX5_number 89 = .ok (.iload_n 1, 1) := by decide +kernel
theorem dX5_number_90 : decode cX5_number 90 = .ok (.ireturn, 1) := by decide +kernel
theorem dX6_init_0 : decode cX6_init 0 = .ok (.aload_n 0, 1) := by decide +kernel
theorem dX6_init_1 : decode cX6_init 1 = .ok (.invokespecial 3, 3) := by decide +kernel
theorem dX6_init_4 : decode cX6_init 4 = .ok (.aload_n 0, 1) := by decide +kernel
theorem dX6_init_5 : decode cX6_init 5 = .ok (.iconst 3, 1) := by decide +kernel
theorem dX6_init_6 : decode cX6_init 6 = .ok (.newarray .int, 2) := by decide +kernel
theorem dX6_init_8 : decode cX6_init 8 = .ok (.putfield 9, 3) := by decide +kernel
theorem dX6_init_11 : decode cX6_init 11 = .ok (.aload_n 0, 1) := by decide +kernel
theorem dX6_init_12 : decode cX6_init 12 = .ok (.bipush 8, 2) := by decide +kernel
theorem dX6_init_14 : decode cX6_init 14 = .ok (.newarray .int, 2) := by decide +kernel
theorem dX6_init_16 : decode cX6_init 16 = .ok (.putfield 15, 3) := by decide +kernel
theorem dX6_init_19 : decode cX6_init 19 = .ok (.aload_n 0, 1) := by decide +kernel
theorem dX6_init_20 : decode cX6_init 20 = .ok (.bipush 8, 2) := by decide +kernel
theorem dX6_init_22 : decode cX6_init 22 = .ok (.newarray .int, 2) := by decide +kernel
theorem dX6_init_24 : decode cX6_init 24 = .ok (.putfield 18, 3) := by decide +kernel
theorem dX6_init_27 : decode cX6_init 27 = .ok (.return_, 1) := by decide +kernel
theorem dX6_isUnder_0 : decode cX6_isUnder 0 = .ok (.iload_n 0, 1) := by decide +kernel
theorem dX6_isUnder_1 : decode cX6_isUnder 1 = .ok (.istore_n 2, 1) := by decide +kernel
theorem dX6_isUnder_2 : decode cX6_isUnder 2 = .ok (.iconst 0, 1) := by decide +kernel
theorem dX6_isUnder_3 : decode cX6_isUnder 3 = .ok (.istore_n 3, 1) := by decide +kernel
theorem dX6_isUnder_4 : decode cX6_isUnder 4 = .ok (.iload_n 3, 1) := by decide +kernel
theorem dX6_isUnder_5 : decode cX6_isUnder 5 = .ok (.bipush 6, 2) := by decide +kernel
theorem dX6_isUnder_7 : decode cX6_isUnder 7 = .ok (.if_icmp .ge 26, 3) := by decide +kernel
theorem dX6_isUnder_10 : decode cX6_isUnder 10 = .ok (.iload_n 2, 1) := by decide +kernel
theorem dX6_isUnder_11 : decode cX6_isUnder 11 = .ok (.ifCond .lt 22, 3) := by decide +kernel
theorem dX6_isUnder_14 : decode cX6_isUnder 14 = .ok (.iload_n 2, 1) := by decide +kernel
theorem dX6_isUnder_15 : decode cX6_isUnder 15 = .ok (.iload_n 1, 1) := by decide +kernel
theorem dX6_isUnder_16 : decode cX6_isUnder 16 = .ok (.if_icmp .ne 5, 3) := by decide +kernel
theorem dX6_isUnder_19 : decode cX6_isUnder 19 = .ok (.iconst 1, 1) := by decide +kernel
theorem dX6_isUnder_20 : decode cX6_isUnder 20 = .ok (.ireturn, 1) := by decide +kernel
theorem dX6_isUnder_21 : decode cX6_isUnder 21 = .ok (.getstatic 21, 3) := by decide +kernel
theorem dX6_isUnder_24 : decode cX6_isUnder 24 = .ok (.iload_n 2, 1) := by decide +kernel
theorem dX6_isUnder_25 : decode cX6_isUnder 25 = .ok (.iaload, 1) := by decide +kernel
theorem dX6_isUnder_26 : decode cX6_isUnder 26 = .ok (.istore_n 2, 1) := by decide +kernel
theorem dX6_isUnder_27 : decode cX6_isUnder 27 = .ok (.iinc 3 1, 3) := by decide +kernel
theorem dX6_isUnder_30 : decode cX6_isUnder 30 = .ok (.goto (-26), 3) := by decide +kernel
theorem dX6_isUnder_33 : decode cX6_isUnder 33 = .ok (.iconst 0, 1) := by decide +kernel
theorem dX6_isUnder_34 : decode cX6_isUnder 34 = .ok (.ireturn, 1) := by decide +kernel
theorem dX6_breach_0 : decode cX6_breach 0 = .ok (.aload_n 0, 1) := by decide +kernel
theorem dX6_breach_1 : decode cX6_breach 1 = .ok (.aload_n 1, 1) := by decide +kernel
theorem dX6_breach_2 : decode cX6_breach 2 = .ok (.invokevirtual 24, 3) := by decide +kernel
theorem dX6_breach_5 : decode cX6_breach 5 = .ok (.istore_n 3, 1) := by decide +kernel
theorem dX6_breach_6 : decode cX6_breach 6 = .ok (.iload_n 3, 1) := by decide +kernel
theorem dX6_breach_7 : decode cX6_breach 7 = .ok (.bipush (-5), 2) := by decide +kernel
theorem dX6_breach_9 : decode cX6_breach 9 = .ok (.if_icmp .ne 17, 3) := by decide +kernel
theorem dX6_breach_12 : decode cX6_breach 12 = .ok (.iload_n 2, 1) := by decide +kernel
theorem dX6_breach_13 : decode cX6_breach 13 = .ok (.iconst 2, 1) := by decide +kernel
theorem dX6_breach_14 : decode cX6_breach 14 = .ok (.invokestatic 28, 3) := by decide +kernel
theorem dX6_breach_17 : decode cX6_breach 17 = .ok (.ifCond .eq 9, 3) := by decide +kernel
theorem dX6_breach_20 : decode cX6_breach 20 = .ok (.aload_n 0, 1) := by decide +kernel
theorem dX6_breach_21 : decode cX6_breach 21 = .ok (.aload_n 1, 1) := by decide +kernel
theorem dX6_breach_22 : decode cX6_breach 22 = .ok (.invokevirtual 32, 3) := by decide +kernel
theorem dX6_breach_25 : decode cX6_breach 25 = .ok (.istore_n 3, 1) := by decide +kernel
theorem dX6_breach_26 : decode cX6_breach 26 = .ok (.iload_n 3, 1) := by decide +kernel
theorem dX6_breach_27 : decode cX6_breach 27 = .ok (.bipush (-5), 2) := by decide +kernel
theorem dX6_breach_29 : decode cX6_breach 29 = .ok (.if_icmp .eq 5, 3) := by decide +kernel
theorem dX6_breach_32 : decode cX6_breach 32 = .ok (.iload_n 3, 1) := by decide +kernel
theorem dX6_breach_33 : decode cX6_breach 33 = .ok (.ireturn, 1) := by decide +kernel
theorem dX6_breach_34 : decode cX6_breach 34 = .ok (.iload_n 2, 1) := by decide +kernel
theorem dX6_breach_35 : decode cX6_breach 35 = .ok (.tableswitch 43 3 5 #[25, 31, 37], 25) := by decide +kernel
theorem dX6_breach_60 : decode cX6_breach 60 = .ok (.aload_n 0, 1) := by decide +kernel
theorem dX6_breach_61 : decode cX6_breach 61 = .ok (.aload_n 1, 1) := by decide +kernel
theorem dX6_breach_62 : decode cX6_breach 62 = .ok (.invokevirtual 35, 3) := by decide +kernel
theorem dX6_breach_65 : decode cX6_breach 65 = .ok (.ireturn, 1) := by decide +kernel
theorem dX6_breach_66 : decode cX6_breach 66 = .ok (.aload_n 0, 1) := by decide +kernel
theorem dX6_breach_67 : decode cX6_breach 67 = .ok (.aload_n 1, 1) := by decide +kernel
theorem dX6_breach_68 : decode cX6_breach 68 = .ok (.invokevirtual 38, 3) := by decide +kernel
theorem dX6_breach_71 : decode cX6_breach 71 = .ok (.ireturn, 1) := by decide +kernel
theorem dX6_breach_72 : decode cX6_breach 72 = .ok (.aload_n 0, 1) := by decide +kernel
theorem dX6_breach_73 : decode cX6_breach 73 = .ok (.aload_n 1, 1) := by decide +kernel
theorem dX6_breach_74 : decode cX6_breach 74 = .ok (.invokevirtual 41, 3) := by decide +kernel
theorem dX6_breach_77 : decode cX6_breach 77 = .ok (.ireturn, 1) := by decide +kernel
theorem dX6_breach_78 : decode cX6_breach 78 = .ok (.bipush (-5), 2) := by decide +kernel
theorem dX6_breach_80 : decode cX6_breach 80 = .ok (.ireturn, 1) := by decide +kernel
theorem dX6_stay_0 : decode cX6_stay 0 = .ok (.iconst 0, 1) := by decide +kernel
theorem dX6_stay_1 : decode cX6_stay 1 = .ok (.istore_n 2, 1) := by decide +kernel
theorem dX6_stay_2 : decode cX6_stay 2 = .ok (.iload_n 2, 1) := by decide +kernel
theorem dX6_stay_3 : decode cX6_stay 3 = .ok (.aload_n 1, 1) := by decide +kernel
theorem dX6_stay_4 : decode cX6_stay 4 = .ok (.getfield 44, 3) := by decide +kernel
theorem dX6_stay_7 : decode cX6_stay 7 = .ok (.if_icmp .ge 68, 3) := by decide +kernel
theorem dX6_stay_10 : decode cX6_stay 10 = .ok (.aload_n 1, 1) := by decide +kernel
theorem dX6_stay_11 : decode cX6_stay 11 = .ok (.iload_n 2, 1) := by decide +kernel
theorem dX6_stay_12 : decode cX6_stay 12 = .ok (.aload_n 1, 1) := by decide +kernel
theorem dX6_stay_13 : decode cX6_stay 13 = .ok (.getfield 50, 3) := by decide +kernel
theorem dX6_stay_16 : decode cX6_stay 16 = .ok (.iload_n 2, 1) := by decide +kernel
theorem dX6_stay_17 : decode cX6_stay 17 = .ok (.iaload, 1) := by decide +kernel
theorem dX6_stay_18 : decode cX6_stay 18 = .ok (.invokevirtual 53, 3) := by decide +kernel
theorem dX6_stay_21 : decode cX6_stay 21 = .ok (.istore_n 3, 1) := by decide +kernel
theorem dX6_stay_22 : decode cX6_stay 22 = .ok (.iconst 0, 1) := by decide +kernel
theorem dX6_stay_23 : decode cX6_stay 23 = .ok (.istore 4, 2) := by decide +kernel
theorem dX6_stay_25 : decode cX6_stay 25 = .ok (.iload 4, 2) := by decide +kernel
theorem dX6_stay_27 : decode cX6_stay 27 = .ok (.aload_n 1, 1) := by decide +kernel
theorem dX6_stay_28 : decode cX6_stay 28 = .ok (.getfield 57, 3) := by decide +kernel
theorem dX6_stay_31 : decode cX6_stay 31 = .ok (.if_icmp .ge 38, 3) := by decide +kernel
theorem dX6_stay_34 : decode cX6_stay 34 = .ok (.aload_n 1, 1) := by decide +kernel
theorem dX6_stay_35 : decode cX6_stay 35 = .ok (.iload_n 2, 1) := by decide +kernel
theorem dX6_stay_36 : decode cX6_stay 36 = .ok (.iload 4, 2) := by decide +kernel
theorem dX6_stay_38 : decode cX6_stay 38 = .ok (.invokevirtual 60, 3) := by decide +kernel
theorem dX6_stay_41 : decode cX6_stay 41 = .ok (.ifCond .eq 22, 3) := by decide +kernel
theorem dX6_stay_44 : decode cX6_stay 44 = .ok (.aload_n 1, 1) := by decide +kernel
theorem dX6_stay_45 : decode cX6_stay 45 = .ok (.iload_n 2, 1) := by decide +kernel
theorem dX6_stay_46 : decode cX6_stay 46 = .ok (.iload 4, 2) := by decide +kernel
theorem dX6_stay_48 : decode cX6_stay 48 = .ok (.invokevirtual 53, 3) := by decide +kernel
theorem dX6_stay_51 : decode cX6_stay 51 = .ok (.iload_n 3, 1) := by decide +kernel
theorem dX6_stay_52 : decode cX6_stay 52 = .ok (.if_icmp .le 11, 3) := by decide +kernel
theorem dX6_stay_55 : decode cX6_stay 55 = .ok (.bipush 100, 2) := by decide +kernel
theorem dX6_stay_57 : decode cX6_stay 57 = .ok (.iload_n 2, 1) := by decide +kernel
theorem dX6_stay_58 : decode cX6_stay 58 = .ok (.imul, 1) := by decide +kernel
theorem dX6_stay_59 : decode cX6_stay 59 = .ok (.iload 4, 2) := by decide +kernel
theorem dX6_stay_61 : decode cX6_stay 61 = .ok (.iadd, 1) := by decide +kernel
theorem dX6_stay_62 : decode cX6_stay 62 = .ok (.ireturn, 1) := by decide +kernel
theorem dX6_stay_63 : decode cX6_stay 63 = .ok (.iinc 4 1, 3) := by decide +kernel
theorem dX6_stay_66 : decode cX6_stay 66 = .ok (.goto (-41), 3) := by decide +kernel
theorem dX6_stay_69 : decode cX6_stay 69 = .ok (.iinc 2 1, 3) := by decide +kernel
theorem dX6_stay_72 : decode cX6_stay 72 = .ok (.goto (-70), 3) := by decide +kernel
theorem dX6_stay_75 : decode cX6_stay 75 = .ok (.bipush (-5), 2) := by decide +kernel
theorem dX6_stay_77 : decode cX6_stay 77 = .ok (.ireturn, 1) := by decide +kernel
theorem dX6_voted_0 : decode cX6_voted 0 = .ok (.iconst 0, 1) := by decide +kernel
theorem dX6_voted_1 : decode cX6_voted 1 = .ok (.istore_n 2, 1) := by decide +kernel
theorem dX6_voted_2 : decode cX6_voted 2 = .ok (.iload_n 2, 1) := by decide +kernel
theorem dX6_voted_3 : decode cX6_voted 3 = .ok (.aload_n 1, 1) := by decide +kernel
theorem dX6_voted_4 : decode cX6_voted 4 = .ok (.getfield 57, 3) := by decide +kernel
theorem dX6_voted_7 : decode cX6_voted 7 = .ok (.if_icmp .ge 48, 3) := by decide +kernel
theorem dX6_voted_10 : decode cX6_voted 10 = .ok (.iconst 0, 1) := by decide +kernel
theorem dX6_voted_11 : decode cX6_voted 11 = .ok (.istore_n 3, 1) := by decide +kernel
theorem dX6_voted_12 : decode cX6_voted 12 = .ok (.iload_n 3, 1) := by decide +kernel
theorem dX6_voted_13 : decode cX6_voted 13 = .ok (.iconst 3, 1) := by decide +kernel
theorem dX6_voted_14 : decode cX6_voted 14 = .ok (.if_icmp .ge 35, 3) := by decide +kernel
theorem dX6_voted_17 : decode cX6_voted 17 = .ok (.aload_n 1, 1) := by decide +kernel
theorem dX6_voted_18 : decode cX6_voted 18 = .ok (.iload_n 2, 1) := by decide +kernel
theorem dX6_voted_19 : decode cX6_voted 19 = .ok (.iload_n 3, 1) := by decide +kernel
theorem dX6_voted_20 : decode cX6_voted 20 = .ok (.invokevirtual 63, 3) := by decide +kernel
theorem dX6_voted_23 : decode cX6_voted 23 = .ok (.aload_n 1, 1) := by decide +kernel
theorem dX6_voted_24 : decode cX6_voted 24 = .ok (.getfield 66, 3) := by decide +kernel
theorem dX6_voted_27 : decode cX6_voted 27 = .ok (.iload_n 2, 1) := by decide +kernel
theorem dX6_voted_28 : decode cX6_voted 28 = .ok (.iconst 3, 1) := by decide +kernel
theorem dX6_voted_29 : decode cX6_voted 29 = .ok (.imul, 1) := by decide +kernel
theorem dX6_voted_30 : decode cX6_voted 30 = .ok (.iload_n 3, 1) := by decide +kernel
theorem dX6_voted_31 : decode cX6_voted 31 = .ok (.iadd, 1) := by decide +kernel
theorem dX6_voted_32 : decode cX6_voted 32 = .ok (.iaload, 1) := by decide +kernel
theorem dX6_voted_33 : decode cX6_voted 33 = .ok (.if_icmp .eq 10, 3) := by decide +kernel
theorem dX6_voted_36 : decode cX6_voted 36 = .ok (.bipush 100, 2) := by decide +kernel
theorem dX6_voted_38 : decode cX6_voted 38 = .ok (.iload_n 2, 1) := by decide +kernel
theorem dX6_voted_39 : decode cX6_voted 39 = .ok (.imul, 1) := by decide +kernel
theorem dX6_voted_40 : decode cX6_voted 40 = .ok (.iload_n 3, 1) := by decide +kernel
theorem dX6_voted_41 : decode cX6_voted 41 = .ok (.iadd, 1) := by decide +kernel
theorem dX6_voted_42 : decode cX6_voted 42 = .ok (.ireturn, 1) := by decide +kernel
theorem dX6_voted_43 : decode cX6_voted 43 = .ok (.iinc 3 1, 3) := by decide +kernel
theorem dX6_voted_46 : decode cX6_voted 46 = .ok (.goto (-34), 3) := by decide +kernel
theorem dX6_voted_49 : decode cX6_voted 49 = .ok (.iinc 2 1, 3) := by decide +kernel
theorem dX6_voted_52 : decode cX6_voted 52 = .ok (.goto (-50), 3) := by decide +kernel
theorem dX6_voted_55 : decode cX6_voted 55 = .ok (.bipush (-5), 2) := by decide +kernel
theorem dX6_voted_57 : decode cX6_voted 57 = .ok (.ireturn, 1) := by decide +kernel
theorem dX6_rented_0 : decode cX6_rented 0 = .ok (.iconst 0, 1) := by decide +kernel
theorem dX6_rented_1 : decode cX6_rented 1 = .ok (.istore_n 2, 1) := by decide +kernel
theorem dX6_rented_2 : decode cX6_rented 2 = .ok (.iload_n 2, 1) := by decide +kernel
theorem dX6_rented_3 : decode cX6_rented 3 = .ok (.aload_n 1, 1) := by decide +kernel
theorem dX6_rented_4 : decode cX6_rented 4 = .ok (.getfield 44, 3) := by decide +kernel
theorem dX6_rented_7 : decode cX6_rented 7 = .ok (.if_icmp .ge 83, 3) := by decide +kernel
theorem dX6_rented_10 : decode cX6_rented 10 = .ok (.aload_n 1, 1) := by decide +kernel
theorem dX6_rented_11 : decode cX6_rented 11 = .ok (.iload_n 2, 1) := by decide +kernel
theorem dX6_rented_12 : decode cX6_rented 12 = .ok (.aload_n 1, 1) := by decide +kernel
theorem dX6_rented_13 : decode cX6_rented 13 = .ok (.getfield 50, 3) := by decide +kernel
theorem dX6_rented_16 : decode cX6_rented 16 = .ok (.iload_n 2, 1) := by decide +kernel
theorem dX6_rented_17 : decode cX6_rented 17 = .ok (.iaload, 1) := by decide +kernel
theorem dX6_rented_18 : decode cX6_rented 18 = .ok (.invokevirtual 53, 3) := by decide +kernel
theorem dX6_rented_21 : decode cX6_rented 21 = .ok (.istore_n 3, 1) := by decide +kernel
theorem dX6_rented_22 : decode cX6_rented 22 = .ok (.iconst 0, 1) := by decide +kernel
theorem dX6_rented_23 : decode cX6_rented 23 = .ok (.istore 4, 2) := by decide +kernel
theorem dX6_rented_25 : decode cX6_rented 25 = .ok (.iload 4, 2) := by decide +kernel
theorem dX6_rented_27 : decode cX6_rented 27 = .ok (.aload_n 1, 1) := by decide +kernel
theorem dX6_rented_28 : decode cX6_rented 28 = .ok (.getfield 57, 3) := by decide +kernel
theorem dX6_rented_31 : decode cX6_rented 31 = .ok (.if_icmp .ge 53, 3) := by decide +kernel
theorem dX6_rented_34 : decode cX6_rented 34 = .ok (.aload_n 1, 1) := by decide +kernel
theorem dX6_rented_35 : decode cX6_rented 35 = .ok (.iload 4, 2) := by decide +kernel
theorem dX6_rented_37 : decode cX6_rented 37 = .ok (.invokevirtual 69, 3) := by decide +kernel
theorem dX6_rented_40 : decode cX6_rented 40 = .ok (.ifCond .ne 38, 3) := by decide +kernel
theorem dX6_rented_43 : decode cX6_rented 43 = .ok (.aload_n 1, 1) := by decide +kernel
theorem dX6_rented_44 : decode cX6_rented 44 = .ok (.getfield 73, 3) := by decide +kernel
theorem dX6_rented_47 : decode cX6_rented 47 = .ok (.iload_n 2, 1) := by decide +kernel
theorem dX6_rented_48 : decode cX6_rented 48 = .ok (.iaload, 1) := by decide +kernel
theorem dX6_rented_49 : decode cX6_rented 49 = .ok (.aload_n 1, 1) := by decide +kernel
theorem dX6_rented_50 : decode cX6_rented 50 = .ok (.getfield 76, 3) := by decide +kernel
theorem dX6_rented_53 : decode cX6_rented 53 = .ok (.iload 4, 2) := by decide +kernel
theorem dX6_rented_55 : decode cX6_rented 55 = .ok (.iaload, 1) := by decide +kernel
theorem dX6_rented_56 : decode cX6_rented 56 = .ok (.if_icmp .lt 22, 3) := by decide +kernel
theorem dX6_rented_59 : decode cX6_rented 59 = .ok (.aload_n 1, 1) := by decide +kernel
theorem dX6_rented_60 : decode cX6_rented 60 = .ok (.iload_n 2, 1) := by decide +kernel
theorem dX6_rented_61 : decode cX6_rented 61 = .ok (.iload 4, 2) := by decide +kernel
theorem dX6_rented_63 : decode cX6_rented 63 = .ok (.invokevirtual 53, 3) := by decide +kernel
theorem dX6_rented_66 : decode cX6_rented 66 = .ok (.iload_n 3, 1) := by decide +kernel
theorem dX6_rented_67 : decode cX6_rented 67 = .ok (.if_icmp .le 11, 3) := by decide +kernel
theorem dX6_rented_70 : decode cX6_rented 70 = .ok (.bipush 100, 2) := by decide +kernel
theorem dX6_rented_72 : decode cX6_rented 72 = .ok (.iload_n 2, 1) := by decide +kernel
theorem dX6_rented_73 : decode cX6_rented 73 = .ok (.imul, 1) := by decide +kernel
theorem dX6_rented_74 : decode cX6_rented 74 = .ok (.iload 4, 2) := by decide +kernel
theorem dX6_rented_76 : decode cX6_rented 76 = .ok (.iadd, 1) := by decide +kernel
theorem dX6_rented_77 : decode cX6_rented 77 = .ok (.ireturn, 1) := by decide +kernel
theorem dX6_rented_78 : decode cX6_rented 78 = .ok (.iinc 4 1, 3) := by decide +kernel
theorem dX6_rented_81 : decode cX6_rented 81 = .ok (.goto (-56), 3) := by decide +kernel
theorem dX6_rented_84 : decode cX6_rented 84 = .ok (.iinc 2 1, 3) := by decide +kernel
theorem dX6_rented_87 : decode cX6_rented 87 = .ok (.goto (-85), 3) := by decide +kernel
theorem dX6_rented_90 : decode cX6_rented 90 = .ok (.iconst 0, 1) := by decide +kernel
theorem dX6_rented_91 : decode cX6_rented 91 = .ok (.istore_n 2, 1) := by decide +kernel
theorem dX6_rented_92 : decode cX6_rented 92 = .ok (.iload_n 2, 1) := by decide +kernel
theorem dX6_rented_93 : decode cX6_rented 93 = .ok (.aload_n 1, 1) := by decide +kernel
theorem dX6_rented_94 : decode cX6_rented 94 = .ok (.getfield 57, 3) := by decide +kernel
theorem dX6_rented_97 : decode cX6_rented 97 = .ok (.if_icmp .ge 32, 3) := by decide +kernel
theorem dX6_rented_100 : decode cX6_rented 100 = .ok (.aload_n 1, 1) := by decide +kernel
theorem dX6_rented_101 : decode cX6_rented 101 = .ok (.iload_n 2, 1) := by decide +kernel
theorem dX6_rented_102 : decode cX6_rented 102 = .ok (.invokevirtual 69, 3) := by decide +kernel
theorem dX6_rented_105 : decode cX6_rented 105 = .ok (.ifCond .eq 18, 3) := by decide +kernel
theorem dX6_rented_108 : decode cX6_rented 108 = .ok (.aload_n 1, 1) := by decide +kernel
theorem dX6_rented_109 : decode cX6_rented 109 = .ok (.getfield 79, 3) := by decide +kernel
theorem dX6_rented_112 : decode cX6_rented 112 = .ok (.iload_n 2, 1) := by decide +kernel
theorem dX6_rented_113 : decode cX6_rented 113 = .ok (.iaload, 1) := by decide +kernel
theorem dX6_rented_114 : decode cX6_rented 114 = .ok (.ifCond .eq 9, 3) := by decide +kernel
theorem dX6_rented_117 : decode cX6_rented 117 = .ok (.sipush 1000, 3) := by decide +kernel
theorem dX6_rented_120 : decode cX6_rented 120 = .ok (.iload_n 2, 1) := by decide +kernel
theorem dX6_rented_121 : decode cX6_rented 121 = .ok (.iadd, 1) := by decide +kernel
theorem dX6_rented_122 : decode cX6_rented 122 = .ok (.ireturn, 1) := by decide +kernel
theorem dX6_rented_123 : decode cX6_rented 123 = .ok (.iinc 2 1, 3) := by decide +kernel
theorem dX6_rented_126 : decode cX6_rented 126 = .ok (.goto (-34), 3) := by decide +kernel
theorem dX6_rented_129 : decode cX6_rented 129 = .ok (.bipush (-5), 2) := by decide +kernel
theorem dX6_rented_131 : decode cX6_rented 131 = .ok (.ireturn, 1) := by decide +kernel
theorem dX6_seer_0 : decode cX6_seer 0 = .ok (.iconst 0, 1) := by decide +kernel
theorem dX6_seer_1 : decode cX6_seer 1 = .ok (.istore_n 2, 1) := by decide +kernel
theorem dX6_seer_2 : decode cX6_seer 2 = .ok (.iload_n 2, 1) := by decide +kernel
theorem dX6_seer_3 : decode cX6_seer 3 = .ok (.aload_n 1, 1) := by decide +kernel
theorem dX6_seer_4 : decode cX6_seer 4 = .ok (.getfield 44, 3) := by decide +kernel
theorem dX6_seer_7 : decode cX6_seer 7 = .ok (.if_icmp .ge 135, 3) := by decide +kernel
theorem dX6_seer_10 : decode cX6_seer 10 = .ok (.aload_n 1, 1) := by decide +kernel
theorem dX6_seer_11 : decode cX6_seer 11 = .ok (.getfield 50, 3) := by decide +kernel
theorem dX6_seer_14 : decode cX6_seer 14 = .ok (.iload_n 2, 1) := by decide +kernel
theorem dX6_seer_15 : decode cX6_seer 15 = .ok (.iaload, 1) := by decide +kernel
theorem dX6_seer_16 : decode cX6_seer 16 = .ok (.istore_n 3, 1) := by decide +kernel
theorem dX6_seer_17 : decode cX6_seer 17 = .ok (.aload_n 1, 1) := by decide +kernel
theorem dX6_seer_18 : decode cX6_seer 18 = .ok (.iload_n 2, 1) := by decide +kernel
theorem dX6_seer_19 : decode cX6_seer 19 = .ok (.iload_n 3, 1) := by decide +kernel
theorem dX6_seer_20 : decode cX6_seer 20 = .ok (.invokevirtual 53, 3) := by decide +kernel
theorem dX6_seer_23 : decode cX6_seer 23 = .ok (.istore 4, 2) := by decide +kernel
theorem dX6_seer_25 : decode cX6_seer 25 = .ok (.iconst 0, 1) := by decide +kernel
theorem dX6_seer_26 : decode cX6_seer 26 = .ok (.istore 5, 2) := by decide +kernel
theorem dX6_seer_28 : decode cX6_seer 28 = .ok (.iload 5, 2) := by decide +kernel
theorem dX6_seer_30 : decode cX6_seer 30 = .ok (.aload_n 1, 1) := by decide +kernel
theorem dX6_seer_31 : decode cX6_seer 31 = .ok (.getfield 57, 3) := by decide +kernel
theorem dX6_seer_34 : decode cX6_seer 34 = .ok (.if_icmp .ge 102, 3) := by decide +kernel
theorem dX6_seer_37 : decode cX6_seer 37 = .ok (.aload_n 1, 1) := by decide +kernel
theorem dX6_seer_38 : decode cX6_seer 38 = .ok (.iload_n 2, 1) := by decide +kernel
theorem dX6_seer_39 : decode cX6_seer 39 = .ok (.iload 5, 2) := by decide +kernel
theorem dX6_seer_41 : decode cX6_seer 41 = .ok (.invokevirtual 60, 3) := by decide +kernel
theorem dX6_seer_44 : decode cX6_seer 44 = .ok (.ifCond .ne 6, 3) := by decide +kernel
theorem dX6_seer_47 : decode cX6_seer 47 = .ok (.goto 83, 3) := by decide +kernel
theorem dX6_seer_50 : decode cX6_seer 50 = .ok (.aload_n 1, 1) := by decide +kernel
theorem dX6_seer_51 : decode cX6_seer 51 = .ok (.getfield 66, 3) := by decide +kernel
theorem dX6_seer_54 : decode cX6_seer 54 = .ok (.iload 5, 2) := by decide +kernel
theorem dX6_seer_56 : decode cX6_seer 56 = .ok (.iconst 3, 1) := by decide +kernel
theorem dX6_seer_57 : decode cX6_seer 57 = .ok (.imul, 1) := by decide +kernel
theorem dX6_seer_58 : decode cX6_seer 58 = .ok (.aload_n 0, 1) := by decide +kernel
theorem dX6_seer_59 : decode cX6_seer 59 = .ok (.getfield 9, 3) := by decide +kernel
theorem dX6_seer_62 : decode cX6_seer 62 = .ok (.iconst 0, 1) := by decide +kernel
theorem dX6_seer_63 : decode cX6_seer 63 = .ok (.iconst 3, 1) := by decide +kernel
theorem dX6_seer_64 : decode cX6_seer 64 = .ok (.invokestatic 82, 3) := by decide +kernel
theorem dX6_seer_67 : decode cX6_seer 67 = .ok (.aload_n 1, 1) := by decide +kernel
theorem dX6_seer_68 : decode cX6_seer 68 = .ok (.getfield 50, 3) := by decide +kernel
theorem dX6_seer_71 : decode cX6_seer 71 = .ok (.iload_n 2, 1) := by decide +kernel
theorem dX6_seer_72 : decode cX6_seer 72 = .ok (.iload 5, 2) := by decide +kernel
theorem dX6_seer_74 : decode cX6_seer 74 = .ok (.iastore, 1) := by decide +kernel
theorem dX6_seer_75 : decode cX6_seer 75 = .ok (.aload_n 1, 1) := by decide +kernel
theorem dX6_seer_76 : decode cX6_seer 76 = .ok (.iload 5, 2) := by decide +kernel
theorem dX6_seer_78 : decode cX6_seer 78 = .ok (.invokevirtual 88, 3) := by decide +kernel
theorem dX6_seer_81 : decode cX6_seer 81 = .ok (.pop, 1) := by decide +kernel
theorem dX6_seer_82 : decode cX6_seer 82 = .ok (.aload_n 1, 1) := by decide +kernel
theorem dX6_seer_83 : decode cX6_seer 83 = .ok (.iload_n 2, 1) := by decide +kernel
theorem dX6_seer_84 : decode cX6_seer 84 = .ok (.iload 5, 2) := by decide +kernel
theorem dX6_seer_86 : decode cX6_seer 86 = .ok (.invokevirtual 53, 3) := by decide +kernel
theorem dX6_seer_89 : decode cX6_seer 89 = .ok (.istore 6, 2) := by decide +kernel
theorem dX6_seer_91 : decode cX6_seer 91 = .ok (.aload_n 1, 1) := by decide +kernel
theorem dX6_seer_92 : decode cX6_seer 92 = .ok (.getfield 50, 3) := by decide +kernel
theorem dX6_seer_95 : decode cX6_seer 95 = .ok (.iload_n 2, 1) := by decide +kernel
theorem dX6_seer_96 : decode cX6_seer 96 = .ok (.iload_n 3, 1) := by decide +kernel
theorem dX6_seer_97 : decode cX6_seer 97 = .ok (.iastore, 1) := by decide +kernel
theorem dX6_seer_98 : decode cX6_seer 98 = .ok (.aload_n 0, 1) := by decide +kernel
theorem dX6_seer_99 : decode cX6_seer 99 = .ok (.getfield 9, 3) := by decide +kernel
theorem dX6_seer_102 : decode cX6_seer 102 = .ok (.iconst 0, 1) := by decide +kernel
theorem dX6_seer_103 : decode cX6_seer 103 = .ok (.aload_n 1, 1) := by decide +kernel
theorem dX6_seer_104 : decode cX6_seer 104 = .ok (.getfield 66, 3) := by decide +kernel
theorem dX6_seer_107 : decode cX6_seer 107 = .ok (.iload 5, 2) := by decide +kernel
theorem dX6_seer_109 : decode cX6_seer 109 = .ok (.iconst 3, 1) := by decide +kernel
theorem dX6_seer_110 : decode cX6_seer 110 = .ok (.imul, 1) := by decide +kernel
theorem dX6_seer_111 : decode cX6_seer 111 = .ok (.iconst 3, 1) := by decide +kernel
theorem dX6_seer_112 : decode cX6_seer 112 = .ok (.invokestatic 82, 3) := by decide +kernel
theorem dX6_seer_115 : decode cX6_seer 115 = .ok (.iload 6, 2) := by decide +kernel
theorem dX6_seer_117 : decode cX6_seer 117 = .ok (.iload 4, 2) := by decide +kernel
theorem dX6_seer_119 : decode cX6_seer 119 = .ok (.if_icmp .le 11, 3) := by decide +kernel
theorem dX6_seer_122 : decode cX6_seer 122 = .ok (.bipush 100, 2) := by decide +kernel
theorem dX6_seer_124 : decode cX6_seer 124 = .ok (.iload_n 2, 1) := by decide +kernel
theorem dX6_seer_125 : decode cX6_seer 125 = .ok (.imul, 1) := by decide +kernel
theorem dX6_seer_126 : decode cX6_seer 126 = .ok (.iload 5, 2) := by decide +kernel
theorem dX6_seer_128 : decode cX6_seer 128 = .ok (.iadd, 1) := by decide +kernel
theorem dX6_seer_129 : decode cX6_seer 129 = .ok (.ireturn, 1) := by decide +kernel
theorem dX6_seer_130 : decode cX6_seer 130 = .ok (.iinc 5 1, 3) := by decide +kernel
theorem dX6_seer_133 : decode cX6_seer 133 = .ok (.goto (-105), 3) := by decide +kernel
theorem dX6_seer_136 : decode cX6_seer 136 = .ok (.iinc 2 1, 3) := by decide +kernel
theorem dX6_seer_139 : decode cX6_seer 139 = .ok (.goto (-137), 3) := by decide +kernel
theorem dX6_seer_142 : decode cX6_seer 142 = .ok (.bipush (-5), 2) := by decide +kernel
theorem dX6_seer_144 : decode cX6_seer 144 = .ok (.ireturn, 1) := by decide +kernel
theorem dX6_club_0 : decode cX6_club 0 = .ok (.iconst 0, 1) := by decide +kernel
theorem dX6_club_1 : decode cX6_club 1 = .ok (.istore_n 2, 1) := by decide +kernel
theorem dX6_club_2 : decode cX6_club 2 = .ok (.iload_n 2, 1) := by decide +kernel
theorem dX6_club_3 : decode cX6_club 3 = .ok (.aload_n 1, 1) := by decide +kernel
theorem dX6_club_4 : decode cX6_club 4 = .ok (.getfield 44, 3) := by decide +kernel
theorem dX6_club_7 : decode cX6_club 7 = .ok (.if_icmp .ge 26, 3) := by decide +kernel
theorem dX6_club_10 : decode cX6_club 10 = .ok (.aload_n 0, 1) := by decide +kernel
theorem dX6_club_11 : decode cX6_club 11 = .ok (.getfield 18, 3) := by decide +kernel
theorem dX6_club_14 : decode cX6_club 14 = .ok (.iload_n 2, 1) := by decide +kernel
theorem dX6_club_15 : decode cX6_club 15 = .ok (.aload_n 1, 1) := by decide +kernel
theorem dX6_club_16 : decode cX6_club 16 = .ok (.iload_n 2, 1) := by decide +kernel
theorem dX6_club_17 : decode cX6_club 17 = .ok (.aload_n 1, 1) := by decide +kernel
theorem dX6_club_18 : decode cX6_club 18 = .ok (.getfield 50, 3) := by decide +kernel
theorem dX6_club_21 : decode cX6_club 21 = .ok (.iload_n 2, 1) := by decide +kernel
theorem dX6_club_22 : decode cX6_club 22 = .ok (.iaload, 1) := by decide +kernel
theorem dX6_club_23 : decode cX6_club 23 = .ok (.invokevirtual 53, 3) := by decide +kernel
theorem dX6_club_26 : decode cX6_club 26 = .ok (.iastore, 1) := by decide +kernel
theorem dX6_club_27 : decode cX6_club 27 = .ok (.iinc 2 1, 3) := by decide +kernel
theorem dX6_club_30 : decode cX6_club 30 = .ok (.goto (-28), 3) := by decide +kernel
theorem dX6_club_33 : decode cX6_club 33 = .ok (.iconst 0, 1) := by decide +kernel
theorem dX6_club_34 : decode cX6_club 34 = .ok (.istore_n 2, 1) := by decide +kernel
theorem dX6_club_35 : decode cX6_club 35 = .ok (.iload_n 2, 1) := by decide +kernel
theorem dX6_club_36 : decode cX6_club 36 = .ok (.iconst 1, 1) := by decide +kernel
theorem dX6_club_37 : decode cX6_club 37 = .ok (.aload_n 1, 1) := by decide +kernel
theorem dX6_club_38 : decode cX6_club 38 = .ok (.getfield 44, 3) := by decide +kernel
theorem dX6_club_41 : decode cX6_club 41 = .ok (.ishl, 1) := by decide +kernel
theorem dX6_club_42 : decode cX6_club 42 = .ok (.if_icmp .ge 87, 3) := by decide +kernel
theorem dX6_club_45 : decode cX6_club 45 = .ok (.iload_n 2, 1) := by decide +kernel
theorem dX6_club_46 : decode cX6_club 46 = .ok (.invokestatic 92, 3) := by decide +kernel
theorem dX6_club_49 : decode cX6_club 49 = .ok (.istore_n 3, 1) := by decide +kernel
theorem dX6_club_50 : decode cX6_club 50 = .ok (.iload_n 3, 1) := by decide +kernel
theorem dX6_club_51 : decode cX6_club 51 = .ok (.iconst 2, 1) := by decide +kernel
theorem dX6_club_52 : decode cX6_club 52 = .ok (.if_icmp .eq 11, 3) := by decide +kernel
theorem dX6_club_55 : decode cX6_club 55 = .ok (.iload_n 3, 1) := by decide +kernel
theorem dX6_club_56 : decode cX6_club 56 = .ok (.iconst 3, 1) := by decide +kernel
theorem dX6_club_57 : decode cX6_club 57 = .ok (.if_icmp .eq 6, 3) := by decide +kernel
theorem dX6_club_60 : decode cX6_club 60 = .ok (.goto 63, 3) := by decide +kernel
theorem dX6_club_63 : decode cX6_club 63 = .ok (.iconst 0, 1) := by decide +kernel
theorem dX6_club_64 : decode cX6_club 64 = .ok (.istore 4, 2) := by decide +kernel
theorem dX6_club_66 : decode cX6_club 66 = .ok (.iload 4, 2) := by decide +kernel
theorem dX6_club_68 : decode cX6_club 68 = .ok (.aload_n 1, 1) := by decide +kernel
theorem dX6_club_69 : decode cX6_club 69 = .ok (.getfield 57, 3) := by decide +kernel
theorem dX6_club_72 : decode cX6_club 72 = .ok (.if_icmp .ge 51, 3) := by decide +kernel
theorem dX6_club_75 : decode cX6_club 75 = .ok (.aload_n 1, 1) := by decide +kernel
theorem dX6_club_76 : decode cX6_club 76 = .ok (.iload 4, 2) := by decide +kernel
theorem dX6_club_78 : decode cX6_club 78 = .ok (.invokevirtual 97, 3) := by decide +kernel
theorem dX6_club_81 : decode cX6_club 81 = .ok (.ifCond .ne 36, 3) := by decide +kernel
theorem dX6_club_84 : decode cX6_club 84 = .ok (.aload_n 1, 1) := by decide +kernel
theorem dX6_club_85 : decode cX6_club 85 = .ok (.getfield 100, 3) := by decide +kernel
theorem dX6_club_88 : decode cX6_club 88 = .ok (.iload 4, 2) := by decide +kernel
theorem dX6_club_90 : decode cX6_club 90 = .ok (.iaload, 1) := by decide +kernel
theorem dX6_club_91 : decode cX6_club 91 = .ok (.iload_n 3, 1) := by decide +kernel
theorem dX6_club_92 : decode cX6_club 92 = .ok (.if_icmp .lt 25, 3) := by decide +kernel
theorem dX6_club_95 : decode cX6_club 95 = .ok (.aload_n 0, 1) := by decide +kernel
theorem dX6_club_96 : decode cX6_club 96 = .ok (.aload_n 1, 1) := by decide +kernel
theorem dX6_club_97 : decode cX6_club 97 = .ok (.iload_n 2, 1) := by decide +kernel
theorem dX6_club_98 : decode cX6_club 98 = .ok (.iload 4, 2) := by decide +kernel
theorem dX6_club_100 : decode cX6_club 100 = .ok (.invokevirtual 103, 3) := by decide +kernel
theorem dX6_club_103 : decode cX6_club 103 = .ok (.ifCond .eq 14, 3) := by decide +kernel
theorem dX6_club_106 : decode cX6_club 106 = .ok (.bipush 100, 2) := by decide +kernel
theorem dX6_club_108 : decode cX6_club 108 = .ok (.iload_n 2, 1) := by decide +kernel
theorem dX6_club_109 : decode cX6_club 109 = .ok (.invokestatic 107, 3) := by decide +kernel
theorem dX6_club_112 : decode cX6_club 112 = .ok (.imul, 1) := by decide +kernel
theorem dX6_club_113 : decode cX6_club 113 = .ok (.iload 4, 2) := by decide +kernel
theorem dX6_club_115 : decode cX6_club 115 = .ok (.iadd, 1) := by decide +kernel
theorem dX6_club_116 : decode cX6_club 116 = .ok (.ireturn, 1) := by decide +kernel
theorem dX6_club_117 : decode cX6_club 117 = .ok (.iinc 4 1, 3) := by decide +kernel
theorem dX6_club_120 : decode cX6_club 120 = .ok (.goto (-54), 3) := by decide +kernel
theorem dX6_club_123 : decode cX6_club 123 = .ok (.iinc 2 1, 3) := by decide +kernel
theorem dX6_club_126 : decode cX6_club 126 = .ok (.goto (-91), 3) := by decide +kernel
theorem dX6_club_129 : decode cX6_club 129 = .ok (.bipush (-5), 2) := by decide +kernel
theorem dX6_club_131 : decode cX6_club 131 = .ok (.ireturn, 1) := by decide +kernel
theorem dX6_leastOf_0 : decode cX6_leastOf 0 = .ok (.iload_n 0, 1) := by decide +kernel
theorem dX6_leastOf_1 : decode cX6_leastOf 1 = .ok (.iload_n 0, 1) := by decide +kernel
theorem dX6_leastOf_2 : decode cX6_leastOf 2 = .ok (.ineg, 1) := by decide +kernel
theorem dX6_leastOf_3 : decode cX6_leastOf 3 = .ok (.iand, 1) := by decide +kernel
theorem dX6_leastOf_4 : decode cX6_leastOf 4 = .ok (.iconst 1, 1) := by decide +kernel
theorem dX6_leastOf_5 : decode cX6_leastOf 5 = .ok (.isub, 1) := by decide +kernel
theorem dX6_leastOf_6 : decode cX6_leastOf 6 = .ok (.invokestatic 92, 3) := by decide +kernel
theorem dX6_leastOf_9 : decode cX6_leastOf 9 = .ok (.ireturn, 1) := by decide +kernel
theorem dX6_wouldFound_0 : decode cX6_wouldFound 0 = .ok (.aload_n 1, 1) := by decide +kernel
theorem dX6_wouldFound_1 : decode cX6_wouldFound 1 = .ok (.getfield 50, 3) := by decide +kernel
theorem dX6_wouldFound_4 : decode cX6_wouldFound 4 = .ok (.iconst 0, 1) := by decide +kernel
theorem dX6_wouldFound_5 : decode cX6_wouldFound 5 = .ok (.aload_n 0, 1) := by decide +kernel
theorem dX6_wouldFound_6 : decode cX6_wouldFound 6 = .ok (.getfield 15, 3) := by decide +kernel
theorem dX6_wouldFound_9 : decode cX6_wouldFound 9 = .ok (.iconst 0, 1) := by decide +kernel
theorem dX6_wouldFound_10 : decode cX6_wouldFound 10 = .ok (.bipush 8, 2) := by decide +kernel
theorem dX6_wouldFound_12 : decode cX6_wouldFound 12 = .ok (.invokestatic 82, 3) := by decide +kernel
theorem dX6_wouldFound_15 : decode cX6_wouldFound 15 = .ok (.iconst 1, 1) := by decide +kernel
theorem dX6_wouldFound_16 : decode cX6_wouldFound 16 = .ok (.istore 4, 2) := by decide +kernel
theorem dX6_wouldFound_18 : decode cX6_wouldFound 18 = .ok (.iconst 0, 1) := by decide +kernel
theorem dX6_wouldFound_19 : decode cX6_wouldFound 19 = .ok (.istore 5, 2) := by decide +kernel
theorem dX6_wouldFound_21 : decode cX6_wouldFound 21 = .ok (.iload 5, 2) := by decide +kernel
theorem dX6_wouldFound_23 : decode cX6_wouldFound 23 = .ok (.aload_n 1, 1) := by decide +kernel
theorem dX6_wouldFound_24 : decode cX6_wouldFound 24 = .ok (.getfield 44, 3) := by decide +kernel
theorem dX6_wouldFound_27 : decode cX6_wouldFound 27 = .ok (.if_icmp .ge 53, 3) := by decide +kernel
theorem dX6_wouldFound_30 : decode cX6_wouldFound 30 = .ok (.iload_n 2, 1) := by decide +kernel
theorem dX6_wouldFound_31 : decode cX6_wouldFound 31 = .ok (.iload 5, 2) := by decide +kernel
theorem dX6_wouldFound_33 : decode cX6_wouldFound 33 = .ok (.ishr, 1) := by decide +kernel
theorem dX6_wouldFound_34 : decode cX6_wouldFound 34 = .ok (.iconst 1, 1) := by decide +kernel
theorem dX6_wouldFound_35 : decode cX6_wouldFound 35 = .ok (.iand, 1) := by decide +kernel
theorem dX6_wouldFound_36 : decode cX6_wouldFound 36 = .ok (.iconst 1, 1) := by decide +kernel
theorem dX6_wouldFound_37 : decode cX6_wouldFound 37 = .ok (.if_icmp .ne 37, 3) := by decide +kernel
theorem dX6_wouldFound_40 : decode cX6_wouldFound 40 = .ok (.iload 4, 2) := by decide +kernel
theorem dX6_wouldFound_42 : decode cX6_wouldFound 42 = .ok (.aload_n 1, 1) := by decide +kernel
theorem dX6_wouldFound_43 : decode cX6_wouldFound 43 = .ok (.getfield 73, 3) := by decide +kernel
theorem dX6_wouldFound_46 : decode cX6_wouldFound 46 = .ok (.iload 5, 2) := by decide +kernel
theorem dX6_wouldFound_48 : decode cX6_wouldFound 48 = .ok (.iaload, 1) := by decide +kernel
theorem dX6_wouldFound_49 : decode cX6_wouldFound 49 = .ok (.aload_n 1, 1) := by decide +kernel
theorem dX6_wouldFound_50 : decode cX6_wouldFound 50 = .ok (.getfield 76, 3) := by decide +kernel
theorem dX6_wouldFound_53 : decode cX6_wouldFound 53 = .ok (.iload_n 3, 1) := by decide +kernel
theorem dX6_wouldFound_54 : decode cX6_wouldFound 54 = .ok (.iaload, 1) := by decide +kernel
theorem dX6_wouldFound_55 : decode cX6_wouldFound 55 = .ok (.if_icmp .lt 7, 3) := by decide +kernel
theorem dX6_wouldFound_58 : decode cX6_wouldFound 58 = .ok (.iconst 1, 1) := by decide +kernel
theorem dX6_wouldFound_59 : decode cX6_wouldFound 59 = .ok (.goto 4, 3) := by decide +kernel
theorem dX6_wouldFound_62 : decode cX6_wouldFound 62 = .ok (.iconst 0, 1) := by decide +kernel
theorem dX6_wouldFound_63 : decode cX6_wouldFound 63 = .ok (.iand, 1) := by decide +kernel
theorem dX6_wouldFound_64 : decode cX6_wouldFound 64 = .ok (.istore 4, 2) := by decide +kernel
theorem dX6_wouldFound_66 : decode cX6_wouldFound 66 = .ok (.aload_n 1, 1) := by decide +kernel
theorem dX6_wouldFound_67 : decode cX6_wouldFound 67 = .ok (.getfield 50, 3) := by decide +kernel
theorem dX6_wouldFound_70 : decode cX6_wouldFound 70 = .ok (.iload 5, 2) := by decide +kernel
theorem dX6_wouldFound_72 : decode cX6_wouldFound 72 = .ok (.iload_n 3, 1) := by decide +kernel
theorem dX6_wouldFound_73 : decode cX6_wouldFound 73 = .ok (.iastore, 1) := by decide +kernel
theorem dX6_wouldFound_74 : decode cX6_wouldFound 74 = .ok (.iinc 5 1, 3) := by decide +kernel
theorem dX6_wouldFound_77 : decode cX6_wouldFound 77 = .ok (.goto (-56), 3) := by decide +kernel
theorem dX6_wouldFound_80 : decode cX6_wouldFound 80 = .ok (.iconst 0, 1) := by decide +kernel
theorem dX6_wouldFound_81 : decode cX6_wouldFound 81 = .ok (.istore 5, 2) := by decide +kernel
theorem dX6_wouldFound_83 : decode cX6_wouldFound 83 = .ok (.iload 5, 2) := by decide +kernel
theorem dX6_wouldFound_85 : decode cX6_wouldFound 85 = .ok (.aload_n 1, 1) := by decide +kernel
theorem dX6_wouldFound_86 : decode cX6_wouldFound 86 = .ok (.getfield 44, 3) := by decide +kernel
theorem dX6_wouldFound_89 : decode cX6_wouldFound 89 = .ok (.if_icmp .ge 48, 3) := by decide +kernel
theorem dX6_wouldFound_92 : decode cX6_wouldFound 92 = .ok (.iload 4, 2) := by decide +kernel
theorem dX6_wouldFound_94 : decode cX6_wouldFound 94 = .ok (.ifCond .eq 43, 3) := by decide +kernel
theorem dX6_wouldFound_97 : decode cX6_wouldFound 97 = .ok (.iload_n 2, 1) := by decide +kernel
theorem dX6_wouldFound_98 : decode cX6_wouldFound 98 = .ok (.iload 5, 2) := by decide +kernel
theorem dX6_wouldFound_100 : decode cX6_wouldFound 100 = .ok (.ishr, 1) := by decide +kernel
theorem dX6_wouldFound_101 : decode cX6_wouldFound 101 = .ok (.iconst 1, 1) := by decide +kernel
theorem dX6_wouldFound_102 : decode cX6_wouldFound 102 = .ok (.iand, 1) := by decide +kernel
theorem dX6_wouldFound_103 : decode cX6_wouldFound 103 = .ok (.iconst 1, 1) := by decide +kernel
theorem dX6_wouldFound_104 : decode cX6_wouldFound 104 = .ok (.if_icmp .ne 27, 3) := by decide +kernel
theorem dX6_wouldFound_107 : decode cX6_wouldFound 107 = .ok (.aload_n 1, 1) := by decide +kernel
theorem dX6_wouldFound_108 : decode cX6_wouldFound 108 = .ok (.iload 5, 2) := by decide +kernel
theorem dX6_wouldFound_110 : decode cX6_wouldFound 110 = .ok (.iload_n 3, 1) := by decide +kernel
theorem dX6_wouldFound_111 : decode cX6_wouldFound 111 = .ok (.invokevirtual 53, 3) := by decide +kernel
theorem dX6_wouldFound_114 : decode cX6_wouldFound 114 = .ok (.aload_n 0, 1) := by decide +kernel
theorem dX6_wouldFound_115 : decode cX6_wouldFound 115 = .ok (.getfield 18, 3) := by decide +kernel
theorem dX6_wouldFound_118 : decode cX6_wouldFound 118 = .ok (.iload 5, 2) := by decide +kernel
theorem dX6_wouldFound_120 : decode cX6_wouldFound 120 = .ok (.iaload, 1) := by decide +kernel
theorem dX6_wouldFound_121 : decode cX6_wouldFound 121 = .ok (.if_icmp .le 7, 3) := by decide +kernel
theorem dX6_wouldFound_124 : decode cX6_wouldFound 124 = .ok (.iconst 1, 1) := by decide +kernel
theorem dX6_wouldFound_125 : decode cX6_wouldFound 125 = .ok (.goto 4, 3) := by decide +kernel
theorem dX6_wouldFound_128 : decode cX6_wouldFound 128 = .ok (.iconst 0, 1) := by decide +kernel
theorem dX6_wouldFound_129 : decode cX6_wouldFound 129 = .ok (.istore 4, 2) := by decide +kernel
theorem dX6_wouldFound_131 : decode cX6_wouldFound 131 = .ok (.iinc 5 1, 3) := by decide +kernel
theorem dX6_wouldFound_134 : decode cX6_wouldFound 134 = .ok (.goto (-51), 3) := by decide +kernel
theorem dX6_wouldFound_137 : decode cX6_wouldFound 137 = .ok (.aload_n 0, 1) := by decide +kernel
theorem dX6_wouldFound_138 : decode cX6_wouldFound 138 = .ok (.getfield 15, 3) := by decide +kernel
theorem dX6_wouldFound_141 : decode cX6_wouldFound 141 = .ok (.iconst 0, 1) := by decide +kernel
theorem dX6_wouldFound_142 : decode cX6_wouldFound 142 = .ok (.aload_n 1, 1) := by decide +kernel
theorem dX6_wouldFound_143 : decode cX6_wouldFound 143 = .ok (.getfield 50, 3) := by decide +kernel
theorem dX6_wouldFound_146 : decode cX6_wouldFound 146 = .ok (.iconst 0, 1) := by decide +kernel
theorem dX6_wouldFound_147 : decode cX6_wouldFound 147 = .ok (.bipush 8, 2) := by decide +kernel
theorem dX6_wouldFound_149 : decode cX6_wouldFound 149 = .ok (.invokestatic 82, 3) := by decide +kernel
theorem dX6_wouldFound_152 : decode cX6_wouldFound 152 = .ok (.iload 4, 2) := by decide +kernel
theorem dX6_wouldFound_154 : decode cX6_wouldFound 154 = .ok (.ireturn, 1) := by decide +kernel
theorem dX7_init_0 : decode cX7_init 0 = .ok (.aload_n 0, 1) := by decide +kernel
theorem dX7_init_1 : decode cX7_init 1 = .ok (.invokespecial 1, 3) := by decide +kernel
theorem dX7_init_4 : decode cX7_init 4 = .ok (.aload_n 0, 1) := by decide +kernel
theorem dX7_init_5 : decode cX7_init 5 = .ok (.bipush 60, 2) := by decide +kernel
theorem dX7_init_7 : decode cX7_init 7 = .ok (.newarray .long, 2) := by decide +kernel
theorem dX7_init_9 : decode cX7_init 9 = .ok (.putfield 9, 3) := by decide +kernel
theorem dX7_init_12 : decode cX7_init 12 = .ok (.aload_n 0, 1) := by decide +kernel
theorem dX7_init_13 : decode cX7_init 13 = .ok (.iconst (-1), 1) := by decide +kernel
theorem dX7_init_14 : decode cX7_init 14 = .ok (.putfield 13, 3) := by decide +kernel
theorem dX7_init_17 : decode cX7_init 17 = .ok (.return_, 1) := by decide +kernel
theorem dX7_become_0 : decode cX7_become 0 = .ok (.aload_n 0, 1) := by decide +kernel
theorem dX7_become_1 : decode cX7_become 1 = .ok (.iload_n 1, 1) := by decide +kernel
theorem dX7_become_2 : decode cX7_become 2 = .ok (.putfield 13, 3) := by decide +kernel
theorem dX7_become_5 : decode cX7_become 5 = .ok (.aload_n 0, 1) := by decide +kernel
theorem dX7_become_6 : decode cX7_become 6 = .ok (.iload_n 2, 1) := by decide +kernel
theorem dX7_become_7 : decode cX7_become 7 = .ok (.putfield 17, 3) := by decide +kernel
theorem dX7_become_10 : decode cX7_become 10 = .ok (.aload_n 0, 1) := by decide +kernel
theorem dX7_become_11 : decode cX7_become 11 = .ok (.getfield 9, 3) := by decide +kernel
theorem dX7_become_14 : decode cX7_become 14 = .ok (.lconst 0, 1) := by decide +kernel
theorem dX7_become_15 : decode cX7_become 15 = .ok (.invokestatic 20, 3) := by decide +kernel
theorem dX7_become_18 : decode cX7_become 18 = .ok (.return_, 1) := by decide +kernel
theorem dX7_isNothing_0 : decode cX7_isNothing 0 = .ok (.aload_n 0, 1) := by decide +kernel
theorem dX7_isNothing_1 : decode cX7_isNothing 1 = .ok (.getfield 13, 3) := by decide +kernel
theorem dX7_isNothing_4 : decode cX7_isNothing 4 = .ok (.iconst (-1), 1) := by decide +kernel
theorem dX7_isNothing_5 : decode cX7_isNothing 5 = .ok (.if_icmp .ne 7, 3) := by decide +kernel
theorem dX7_isNothing_8 : decode cX7_isNothing 8 = .ok (.iconst 1, 1) := by decide +kernel
theorem dX7_isNothing_9 : decode cX7_isNothing 9 = .ok (.goto 4, 3) := by decide +kernel
theorem dX7_isNothing_12 : decode cX7_isNothing 12 = .ok (.iconst 0, 1) := by decide +kernel
theorem dX7_isNothing_13 : decode cX7_isNothing 13 = .ok (.ireturn, 1) := by decide +kernel
theorem dX7_spans_0 : decode cX7_spans 0 = .ok (.iload_n 1, 1) := by decide +kernel
theorem dX7_spans_1 : decode cX7_spans 1 = .ok (.ifCond .lt 29, 3) := by decide +kernel
theorem dX7_spans_4 : decode cX7_spans 4 = .ok (.iload_n 2, 1) := by decide +kernel
theorem dX7_spans_5 : decode cX7_spans 5 = .ok (.ifCond .lt 25, 3) := by decide +kernel
theorem dX7_spans_8 : decode cX7_spans 8 = .ok (.iload_n 2, 1) := by decide +kernel
theorem dX7_spans_9 : decode cX7_spans 9 = .ok (.aload_n 0, 1) := by decide +kernel
theorem dX7_spans_10 : decode cX7_spans 10 = .ok (.getfield 17, 3) := by decide +kernel
theorem dX7_spans_13 : decode cX7_spans 13 = .ok (.if_icmp .gt 17, 3) := by decide +kernel
theorem dX7_spans_16 : decode cX7_spans 16 = .ok (.iload_n 1, 1) := by decide +kernel
theorem dX7_spans_17 : decode cX7_spans 17 = .ok (.aload_n 0, 1) := by decide +kernel
