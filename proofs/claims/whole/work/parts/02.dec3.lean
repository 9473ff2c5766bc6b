theorem dX10_takesE_39 : decode cX10_takesE 39 = .ok (.getfield 115, 3) := by decide +kernel
theorem dX10_takesE_42 : decode cX10_takesE 42 = .ok (.iconst 4, 1) := by decide +kernel
theorem dX10_takesE_43 : decode cX10_takesE 43 = .ok (.if_icmp .ne 5, 3) := by decide +kernel
theorem dX10_takesE_46 : decode cX10_takesE 46 = .ok (.iconst 0, 1) := by decide +kernel
theorem dX10_takesE_47 : decode cX10_takesE 47 = .ok (.ireturn, 1) := by decide +kernel
theorem dX10_takesE_48 : decode cX10_takesE 48 = .ok (.aload_n 0, 1) := by decide +kernel
theorem dX10_takesE_49 : decode cX10_takesE 49 = .ok (.dup, 1) := by decide +kernel
theorem dX10_takesE_50 : decode cX10_takesE 50 = .ok (.getfield 115, 3) := by decide +kernel
theorem dX10_takesE_53 : decode cX10_takesE 53 = .ok (.iconst 1, 1) := by decide +kernel
theorem dX10_takesE_54 : decode cX10_takesE 54 = .ok (.iadd, 1) := by decide +kernel
theorem dX10_takesE_55 : decode cX10_takesE 55 = .ok (.putfield 115, 3) := by decide +kernel
theorem dX10_takesE_58 : decode cX10_takesE 58 = .ok (.aload_n 0, 1) := by decide +kernel
theorem dX10_takesE_59 : decode cX10_takesE 59 = .ok (.getfield 102, 3) := by decide +kernel
theorem dX10_takesE_62 : decode cX10_takesE 62 = .ok (.aload_n 0, 1) := by decide +kernel
theorem dX10_takesE_63 : decode cX10_takesE 63 = .ok (.getfield 109, 3) := by decide +kernel
theorem dX10_takesE_66 : decode cX10_takesE 66 = .ok (.iload_n 2, 1) := by decide +kernel
theorem dX10_takesE_67 : decode cX10_takesE 67 = .ok (.iastore, 1) := by decide +kernel
theorem dX10_takesE_68 : decode cX10_takesE 68 = .ok (.aload_n 0, 1) := by decide +kernel
theorem dX10_takesE_69 : decode cX10_takesE 69 = .ok (.dup, 1) := by decide +kernel
theorem dX10_takesE_70 : decode cX10_takesE 70 = .ok (.getfield 109, 3) := by decide +kernel
theorem dX10_takesE_73 : decode cX10_takesE 73 = .ok (.iconst 1, 1) := by decide +kernel
theorem dX10_takesE_74 : decode cX10_takesE 74 = .ok (.iadd, 1) := by decide +kernel
theorem dX10_takesE_75 : decode cX10_takesE 75 = .ok (.putfield 109, 3) := by decide +kernel
theorem dX10_takesE_78 : decode cX10_takesE 78 = .ok (.aload_n 0, 1) := by decide +kernel
theorem dX10_takesE_79 : decode cX10_takesE 79 = .ok (.dup, 1) := by decide +kernel
theorem dX10_takesE_80 : decode cX10_takesE 80 = .ok (.getfield 68, 3) := by decide +kernel
theorem dX10_takesE_83 : decode cX10_takesE 83 = .ok (.iconst 1, 1) := by decide +kernel
theorem dX10_takesE_84 : decode cX10_takesE 84 = .ok (.iadd, 1) := by decide +kernel
theorem dX10_takesE_85 : decode cX10_takesE 85 = .ok (.putfield 68, 3) := by decide +kernel
theorem dX10_takesE_88 : decode cX10_takesE 88 = .ok (.goto (-71), 3) := by decide +kernel
theorem dX10_takesE_91 : decode cX10_takesE 91 = .ok (.aload_n 0, 1) := by decide +kernel
theorem dX10_takesE_92 : decode cX10_takesE 92 = .ok (.invokevirtual 250, 3) := by decide +kernel
theorem dX10_takesE_95 : decode cX10_takesE 95 = .ok (.ifCond .eq 8, 3) := by decide +kernel
theorem dX10_takesE_98 : decode cX10_takesE 98 = .ok (.iconst 0, 1) := by decide +kernel
theorem dX10_takesE_99 : decode cX10_takesE 99 = .ok (.istore_n 1, 1) := by decide +kernel
theorem dX10_takesE_100 : decode cX10_takesE 100 = .ok (.goto (-83), 3) := by decide +kernel
theorem dX10_takesE_103 : decode cX10_takesE 103 = .ok (.iconst 0, 1) := by decide +kernel
theorem dX10_takesE_104 : decode cX10_takesE 104 = .ok (.ireturn, 1) := by decide +kernel
theorem dX10_takesE_105 : decode cX10_takesE 105 = .ok (.iload_n 2, 1) := by decide +kernel
theorem dX10_takesE_106 : decode cX10_takesE 106 = .ok (.bipush 38, 2) := by decide +kernel
theorem dX10_takesE_108 : decode cX10_takesE 108 = .ok (.if_icmp .eq 9, 3) := by decide +kernel
theorem dX10_takesE_111 : decode cX10_takesE 111 = .ok (.iload_n 2, 1) := by decide +kernel
theorem dX10_takesE_112 : decode cX10_takesE 112 = .ok (.bipush 124, 2) := by decide +kernel
theorem dX10_takesE_114 : decode cX10_takesE 114 = .ok (.if_icmp .ne 43, 3) := by decide +kernel
theorem dX10_takesE_117 : decode cX10_takesE 117 = .ok (.aload_n 0, 1) := by decide +kernel
theorem dX10_takesE_118 : decode cX10_takesE 118 = .ok (.iload_n 2, 1) := by decide +kernel
theorem dX10_takesE_119 : decode cX10_takesE 119 = .ok (.invokevirtual 253, 3) := by decide +kernel
theorem dX10_takesE_122 : decode cX10_takesE 122 = .ok (.aload_n 0, 1) := by decide +kernel
theorem dX10_takesE_123 : decode cX10_takesE 123 = .ok (.getfield 102, 3) := by decide +kernel
theorem dX10_takesE_126 : decode cX10_takesE 126 = .ok (.aload_n 0, 1) := by decide +kernel
theorem dX10_takesE_127 : decode cX10_takesE 127 = .ok (.getfield 109, 3) := by decide +kernel
theorem dX10_takesE_130 : decode cX10_takesE 130 = .ok (.iload_n 2, 1) := by decide +kernel
theorem dX10_takesE_131 : decode cX10_takesE 131 = .ok (.iastore, 1) := by decide +kernel
theorem dX10_takesE_132 : decode cX10_takesE 132 = .ok (.aload_n 0, 1) := by decide +kernel
theorem dX10_takesE_133 : decode cX10_takesE 133 = .ok (.dup, 1) := by decide +kernel
theorem dX10_takesE_134 : decode cX10_takesE 134 = .ok (.getfield 109, 3) := by decide +kernel
theorem dX10_takesE_137 : decode cX10_takesE 137 = .ok (.iconst 1, 1) := by decide +kernel
theorem dX10_takesE_138 : decode cX10_takesE 138 = .ok (.iadd, 1) := by decide +kernel
theorem dX10_takesE_139 : decode cX10_takesE 139 = .ok (.putfield 109, 3) := by decide +kernel
theorem dX10_takesE_142 : decode cX10_takesE 142 = .ok (.iconst 1, 1) := by decide +kernel
theorem dX10_takesE_143 : decode cX10_takesE 143 = .ok (.istore_n 1, 1) := by decide +kernel
theorem dX10_takesE_144 : decode cX10_takesE 144 = .ok (.aload_n 0, 1) := by decide +kernel
theorem dX10_takesE_145 : decode cX10_takesE 145 = .ok (.dup, 1) := by decide +kernel
theorem dX10_takesE_146 : decode cX10_takesE 146 = .ok (.getfield 68, 3) := by decide +kernel
theorem dX10_takesE_149 : decode cX10_takesE 149 = .ok (.iconst 1, 1) := by decide +kernel
theorem dX10_takesE_150 : decode cX10_takesE 150 = .ok (.iadd, 1) := by decide +kernel
theorem dX10_takesE_151 : decode cX10_takesE 151 = .ok (.putfield 68, 3) := by decide +kernel
theorem dX10_takesE_154 : decode cX10_takesE 154 = .ok (.goto (-137), 3) := by decide +kernel
theorem dX10_takesE_157 : decode cX10_takesE 157 = .ok (.aload_n 0, 1) := by decide +kernel
theorem dX10_takesE_158 : decode cX10_takesE 158 = .ok (.bipush 124, 2) := by decide +kernel
theorem dX10_takesE_160 : decode cX10_takesE 160 = .ok (.invokevirtual 253, 3) := by decide +kernel
theorem dX10_takesE_163 : decode cX10_takesE 163 = .ok (.aload_n 0, 1) := by decide +kernel
theorem dX10_takesE_164 : decode cX10_takesE 164 = .ok (.getfield 109, 3) := by decide +kernel
theorem dX10_takesE_167 : decode cX10_takesE 167 = .ok (.ifCond .ne 5, 3) := by decide +kernel
theorem dX10_takesE_170 : decode cX10_takesE 170 = .ok (.iconst 1, 1) := by decide +kernel
theorem dX10_takesE_171 : decode cX10_takesE 171 = .ok (.ireturn, 1) := by decide +kernel
theorem dX10_takesE_172 : decode cX10_takesE 172 = .ok (.iload_n 2, 1) := by decide +kernel
theorem dX10_takesE_173 : decode cX10_takesE 173 = .ok (.bipush 41, 2) := by decide +kernel
theorem dX10_takesE_175 : decode cX10_takesE 175 = .ok (.if_icmp .eq 5, 3) := by decide +kernel
theorem dX10_takesE_178 : decode cX10_takesE 178 = .ok (.iconst 0, 1) := by decide +kernel
theorem dX10_takesE_179 : decode cX10_takesE 179 = .ok (.ireturn, 1) := by decide +kernel
theorem dX10_takesE_180 : decode cX10_takesE 180 = .ok (.aload_n 0, 1) := by decide +kernel
theorem dX10_takesE_181 : decode cX10_takesE 181 = .ok (.dup, 1) := by decide +kernel
theorem dX10_takesE_182 : decode cX10_takesE 182 = .ok (.getfield 109, 3) := by decide +kernel
theorem dX10_takesE_185 : decode cX10_takesE 185 = .ok (.iconst 1, 1) := by decide +kernel
theorem dX10_takesE_186 : decode cX10_takesE 186 = .ok (.isub, 1) := by decide +kernel
theorem dX10_takesE_187 : decode cX10_takesE 187 = .ok (.putfield 109, 3) := by decide +kernel
theorem dX10_takesE_190 : decode cX10_takesE 190 = .ok (.aload_n 0, 1) := by decide +kernel
theorem dX10_takesE_191 : decode cX10_takesE 191 = .ok (.dup, 1) := by decide +kernel
theorem dX10_takesE_192 : decode cX10_takesE 192 = .ok (.getfield 115, 3) := by decide +kernel
theorem dX10_takesE_195 : decode cX10_takesE 195 = .ok (.iconst 1, 1) := by decide +kernel
theorem dX10_takesE_196 : decode cX10_takesE 196 = .ok (.isub, 1) := by decide +kernel
theorem dX10_takesE_197 : decode cX10_takesE 197 = .ok (.putfield 115, 3) := by decide +kernel
theorem dX10_takesE_200 : decode cX10_takesE 200 = .ok (.aload_n 0, 1) := by decide +kernel
theorem dX10_takesE_201 : decode cX10_takesE 201 = .ok (.dup, 1) := by decide +kernel
theorem dX10_takesE_202 : decode cX10_takesE 202 = .ok (.getfield 112, 3) := by decide +kernel
theorem dX10_takesE_205 : decode cX10_takesE 205 = .ok (.iconst 1, 1) := by decide +kernel
theorem dX10_takesE_206 : decode cX10_takesE 206 = .ok (.isub, 1) := by decide +kernel
theorem dX10_takesE_207 : decode cX10_takesE 207 = .ok (.putfield 112, 3) := by decide +kernel
theorem dX10_takesE_210 : decode cX10_takesE 210 = .ok (.aload_n 0, 1) := by decide +kernel
theorem dX10_takesE_211 : decode cX10_takesE 211 = .ok (.dup, 1) := by decide +kernel
theorem dX10_takesE_212 : decode cX10_takesE 212 = .ok (.getfield 68, 3) := by decide +kernel
theorem dX10_takesE_215 : decode cX10_takesE 215 = .ok (.iconst 1, 1) := by decide +kernel
theorem dX10_takesE_216 : decode cX10_takesE 216 = .ok (.iadd, 1) := by decide +kernel
theorem dX10_takesE_217 : decode cX10_takesE 217 = .ok (.putfield 68, 3) := by decide +kernel
theorem dX10_takesE_220 : decode cX10_takesE 220 = .ok (.aload_n 0, 1) := by decide +kernel
theorem dX10_takesE_221 : decode cX10_takesE 221 = .ok (.aload_n 0, 1) := by decide +kernel
theorem dX10_takesE_222 : decode cX10_takesE 222 = .ok (.getfield 105, 3) := by decide +kernel
theorem dX10_takesE_225 : decode cX10_takesE 225 = .ok (.aload_n 0, 1) := by decide +kernel
theorem dX10_takesE_226 : decode cX10_takesE 226 = .ok (.getfield 112, 3) := by decide +kernel
theorem dX10_takesE_229 : decode cX10_takesE 229 = .ok (.baload, 1) := by decide +kernel
theorem dX10_takesE_230 : decode cX10_takesE 230 = .ok (.invokevirtual 246, 3) := by decide +kernel
theorem dX10_takesE_233 : decode cX10_takesE 233 = .ok (.goto (-216), 3) := by decide +kernel
theorem dX10_takesTwo_0 : decode cX10_takesTwo 0 = .ok (.aload_n 0, 1) := by decide +kernel
theorem dX10_takesTwo_1 : decode cX10_takesTwo 1 = .ok (.iconst 3, 1) := by decide +kernel
theorem dX10_takesTwo_2 : decode cX10_takesTwo 2 = .ok (.invokevirtual 257, 3) := by decide +kernel
theorem dX10_takesTwo_5 : decode cX10_takesTwo 5 = .ok (.ifCond .ne 5, 3) := by decide +kernel
theorem dX10_takesTwo_8 : decode cX10_takesTwo 8 = .ok (.iconst 0, 1) := by decide +kernel
theorem dX10_takesTwo_9 : decode cX10_takesTwo 9 = .ok (.ireturn, 1) := by decide +kernel
theorem dX10_takesTwo_10 : decode cX10_takesTwo 10 = .ok (.aload_n 0, 1) := by decide +kernel
theorem dX10_takesTwo_11 : decode cX10_takesTwo 11 = .ok (.getfield 71, 3) := by decide +kernel
theorem dX10_takesTwo_14 : decode cX10_takesTwo 14 = .ok (.istore_n 2, 1) := by decide +kernel
theorem dX10_takesTwo_15 : decode cX10_takesTwo 15 = .ok (.aload_n 0, 1) := by decide +kernel
theorem dX10_takesTwo_16 : decode cX10_takesTwo 16 = .ok (.bipush 32, 2) := by decide +kernel
theorem dX10_takesTwo_18 : decode cX10_takesTwo 18 = .ok (.invokevirtual 236, 3) := by decide +kernel
theorem dX10_takesTwo_21 : decode cX10_takesTwo 21 = .ok (.ifCond .eq 19, 3) := by decide +kernel
theorem dX10_takesTwo_24 : decode cX10_takesTwo 24 = .ok (.aload_n 0, 1) := by decide +kernel
theorem dX10_takesTwo_25 : decode cX10_takesTwo 25 = .ok (.iload_n 1, 1) := by decide +kernel
theorem dX10_takesTwo_26 : decode cX10_takesTwo 26 = .ok (.ifCond .ne 7, 3) := by decide +kernel
theorem dX10_takesTwo_29 : decode cX10_takesTwo 29 = .ok (.iconst 2, 1) := by decide +kernel
theorem dX10_takesTwo_30 : decode cX10_takesTwo 30 = .ok (.goto 4, 3) := by decide +kernel
theorem dX10_takesTwo_33 : decode cX10_takesTwo 33 = .ok (.iconst 3, 1) := by decide +kernel
theorem dX10_takesTwo_34 : decode cX10_takesTwo 34 = .ok (.invokevirtual 257, 3) := by decide +kernel
theorem dX10_takesTwo_37 : decode cX10_takesTwo 37 = .ok (.ifCond .ne 5, 3) := by decide +kernel
theorem dX10_takesTwo_40 : decode cX10_takesTwo 40 = .ok (.iconst 0, 1) := by decide +kernel
theorem dX10_takesTwo_41 : decode cX10_takesTwo 41 = .ok (.ireturn, 1) := by decide +kernel
theorem dX10_takesTwo_42 : decode cX10_takesTwo 42 = .ok (.aload_n 0, 1) := by decide +kernel
theorem dX10_takesTwo_43 : decode cX10_takesTwo 43 = .ok (.getfield 71, 3) := by decide +kernel
theorem dX10_takesTwo_46 : decode cX10_takesTwo 46 = .ok (.istore_n 3, 1) := by decide +kernel
theorem dX10_takesTwo_47 : decode cX10_takesTwo 47 = .ok (.aload_n 0, 1) := by decide +kernel
theorem dX10_takesTwo_48 : decode cX10_takesTwo 48 = .ok (.bipush 32, 2) := by decide +kernel
theorem dX10_takesTwo_50 : decode cX10_takesTwo 50 = .ok (.invokevirtual 236, 3) := by decide +kernel
theorem dX10_takesTwo_53 : decode cX10_takesTwo 53 = .ok (.ifCond .eq 10, 3) := by decide +kernel
theorem dX10_takesTwo_56 : decode cX10_takesTwo 56 = .ok (.aload_n 0, 1) := by decide +kernel
theorem dX10_takesTwo_57 : decode cX10_takesTwo 57 = .ok (.invokevirtual 243, 3) := by decide +kernel
theorem dX10_takesTwo_60 : decode cX10_takesTwo 60 = .ok (.ifCond .ne 5, 3) := by decide +kernel
theorem dX10_takesTwo_63 : decode cX10_takesTwo 63 = .ok (.iconst 0, 1) := by decide +kernel
theorem dX10_takesTwo_64 : decode cX10_takesTwo 64 = .ok (.ireturn, 1) := by decide +kernel
theorem dX10_takesTwo_65 : decode cX10_takesTwo 65 = .ok (.iload_n 1, 1) := by decide +kernel
theorem dX10_takesTwo_66 : decode cX10_takesTwo 66 = .ok (.ifCond .ne 20, 3) := by decide +kernel
theorem dX10_takesTwo_69 : decode cX10_takesTwo 69 = .ok (.aload_n 0, 1) := by decide +kernel
theorem dX10_takesTwo_70 : decode cX10_takesTwo 70 = .ok (.getfield 118, 3) := by decide +kernel
theorem dX10_takesTwo_73 : decode cX10_takesTwo 73 = .ok (.iconst 3, 1) := by decide +kernel
theorem dX10_takesTwo_74 : decode cX10_takesTwo 74 = .ok (.iload_n 2, 1) := by decide +kernel
theorem dX10_takesTwo_75 : decode cX10_takesTwo 75 = .ok (.imul, 1) := by decide +kernel
theorem dX10_takesTwo_76 : decode cX10_takesTwo 76 = .ok (.iload_n 3, 1) := by decide +kernel
theorem dX10_takesTwo_77 : decode cX10_takesTwo 77 = .ok (.iadd, 1) := by decide +kernel
theorem dX10_takesTwo_78 : decode cX10_takesTwo 78 = .ok (.aload_n 0, 1) := by decide +kernel
theorem dX10_takesTwo_79 : decode cX10_takesTwo 79 = .ok (.getfield 71, 3) := by decide +kernel
theorem dX10_takesTwo_82 : decode cX10_takesTwo 82 = .ok (.iastore, 1) := by decide +kernel
theorem dX10_takesTwo_83 : decode cX10_takesTwo 83 = .ok (.goto 17, 3) := by decide +kernel
theorem dX10_takesTwo_86 : decode cX10_takesTwo 86 = .ok (.aload_n 0, 1) := by decide +kernel
theorem dX10_takesTwo_87 : decode cX10_takesTwo 87 = .ok (.getfield 121, 3) := by decide +kernel
theorem dX10_takesTwo_90 : decode cX10_takesTwo 90 = .ok (.iconst 4, 1) := by decide +kernel
theorem dX10_takesTwo_91 : decode cX10_takesTwo 91 = .ok (.iload_n 2, 1) := by decide +kernel
theorem dX10_takesTwo_92 : decode cX10_takesTwo 92 = .ok (.imul, 1) := by decide +kernel
theorem dX10_takesTwo_93 : decode cX10_takesTwo 93 = .ok (.iload_n 3, 1) := by decide +kernel
theorem dX10_takesTwo_94 : decode cX10_takesTwo 94 = .ok (.iadd, 1) := by decide +kernel
theorem dX10_takesTwo_95 : decode cX10_takesTwo 95 = .ok (.aload_n 0, 1) := by decide +kernel
theorem dX10_takesTwo_96 : decode cX10_takesTwo 96 = .ok (.getfield 71, 3) := by decide +kernel
theorem dX10_takesTwo_99 : decode cX10_takesTwo 99 = .ok (.iastore, 1) := by decide +kernel
theorem dX10_takesTwo_100 : decode cX10_takesTwo 100 = .ok (.iconst 1, 1) := by decide +kernel
theorem dX10_takesTwo_101 : decode cX10_takesTwo 101 = .ok (.ireturn, 1) := by decide +kernel
theorem dX10_takesCost_0 : decode cX10_takesCost 0 = .ok (.aload_n 0, 1) := by decide +kernel
theorem dX10_takesCost_1 : decode cX10_takesCost 1 = .ok (.ldc_w 260, 3) := by decide +kernel
theorem dX10_takesCost_4 : decode cX10_takesCost 4 = .ok (.iconst 4, 1) := by decide +kernel
theorem dX10_takesCost_5 : decode cX10_takesCost 5 = .ok (.invokevirtual 261, 3) := by decide +kernel
theorem dX10_takesCost_8 : decode cX10_takesCost 8 = .ok (.ifCond .eq 11, 3) := by decide +kernel
theorem dX10_takesCost_11 : decode cX10_takesCost 11 = .ok (.aload_n 0, 1) := by decide +kernel
theorem dX10_takesCost_12 : decode cX10_takesCost 12 = .ok (.iconst 2, 1) := by decide +kernel
theorem dX10_takesCost_13 : decode cX10_takesCost 13 = .ok (.invokevirtual 257, 3) := by decide +kernel
theorem dX10_takesCost_16 : decode cX10_takesCost 16 = .ok (.ifCond .ne 5, 3) := by decide +kernel
theorem dX10_takesCost_19 : decode cX10_takesCost 19 = .ok (.iconst 0, 1) := by decide +kernel
theorem dX10_takesCost_20 : decode cX10_takesCost 20 = .ok (.ireturn, 1) := by decide +kernel
theorem dX10_takesCost_21 : decode cX10_takesCost 21 = .ok (.aload_n 0, 1) := by decide +kernel
theorem dX10_takesCost_22 : decode cX10_takesCost 22 = .ok (.getfield 71, 3) := by decide +kernel
theorem dX10_takesCost_25 : decode cX10_takesCost 25 = .ok (.istore_n 1, 1) := by decide +kernel
theorem dX10_takesCost_26 : decode cX10_takesCost 26 = .ok (.aload_n 0, 1) := by decide +kernel
theorem dX10_takesCost_27 : decode cX10_takesCost 27 = .ok (.bipush 32, 2) := by decide +kernel
theorem dX10_takesCost_29 : decode cX10_takesCost 29 = .ok (.invokevirtual 236, 3) := by decide +kernel
theorem dX10_takesCost_32 : decode cX10_takesCost 32 = .ok (.ifCond .eq 10, 3) := by decide +kernel
theorem dX10_takesCost_35 : decode cX10_takesCost 35 = .ok (.aload_n 0, 1) := by decide +kernel
theorem dX10_takesCost_36 : decode cX10_takesCost 36 = .ok (.invokevirtual 243, 3) := by decide +kernel
theorem dX10_takesCost_39 : decode cX10_takesCost 39 = .ok (.ifCond .ne 5, 3) := by decide +kernel
theorem dX10_takesCost_42 : decode cX10_takesCost 42 = .ok (.iconst 0, 1) := by decide +kernel
theorem dX10_takesCost_43 : decode cX10_takesCost 43 = .ok (.ireturn, 1) := by decide +kernel
theorem dX10_takesCost_44 : decode cX10_takesCost 44 = .ok (.aload_n 0, 1) := by decide +kernel
theorem dX10_takesCost_45 : decode cX10_takesCost 45 = .ok (.getfield 124, 3) := by decide +kernel
theorem dX10_takesCost_48 : decode cX10_takesCost 48 = .ok (.iload_n 1, 1) := by decide +kernel
theorem dX10_takesCost_49 : decode cX10_takesCost 49 = .ok (.aload_n 0, 1) := by decide +kernel
theorem dX10_takesCost_50 : decode cX10_takesCost 50 = .ok (.getfield 71, 3) := by decide +kernel
theorem dX10_takesCost_53 : decode cX10_takesCost 53 = .ok (.iastore, 1) := by decide +kernel
theorem dX10_takesCost_54 : decode cX10_takesCost 54 = .ok (.iconst 1, 1) := by decide +kernel
theorem dX10_takesCost_55 : decode cX10_takesCost 55 = .ok (.ireturn, 1) := by decide +kernel
theorem dX10_takesShun_0 : decode cX10_takesShun 0 = .ok (.aload_n 0, 1) := by decide +kernel
theorem dX10_takesShun_1 : decode cX10_takesShun 1 = .ok (.ldc_w 265, 3) := by decide +kernel
theorem dX10_takesShun_4 : decode cX10_takesShun 4 = .ok (.iconst 4, 1) := by decide +kernel
theorem dX10_takesShun_5 : decode cX10_takesShun 5 = .ok (.invokevirtual 261, 3) := by decide +kernel
theorem dX10_takesShun_8 : decode cX10_takesShun 8 = .ok (.ifCond .eq 26, 3) := by decide +kernel
theorem dX10_takesShun_11 : decode cX10_takesShun 11 = .ok (.aload_n 0, 1) := by decide +kernel
theorem dX10_takesShun_12 : decode cX10_takesShun 12 = .ok (.invokevirtual 266, 3) := by decide +kernel
theorem dX10_takesShun_15 : decode cX10_takesShun 15 = .ok (.ifCond .eq 19, 3) := by decide +kernel
theorem dX10_takesShun_18 : decode cX10_takesShun 18 = .ok (.aload_n 0, 1) := by decide +kernel
theorem dX10_takesShun_19 : decode cX10_takesShun 19 = .ok (.bipush 32, 2) := by decide +kernel
theorem dX10_takesShun_21 : decode cX10_takesShun 21 = .ok (.invokevirtual 236, 3) := by decide +kernel
theorem dX10_takesShun_24 : decode cX10_takesShun 24 = .ok (.ifCond .eq 10, 3) := by decide +kernel
theorem dX10_takesShun_27 : decode cX10_takesShun 27 = .ok (.aload_n 0, 1) := by decide +kernel
theorem dX10_takesShun_28 : decode cX10_takesShun 28 = .ok (.invokevirtual 243, 3) := by decide +kernel
theorem dX10_takesShun_31 : decode cX10_takesShun 31 = .ok (.ifCond .ne 5, 3) := by decide +kernel
theorem dX10_takesShun_34 : decode cX10_takesShun 34 = .ok (.iconst 0, 1) := by decide +kernel
theorem dX10_takesShun_35 : decode cX10_takesShun 35 = .ok (.ireturn, 1) := by decide +kernel
theorem dX10_takesShun_36 : decode cX10_takesShun 36 = .ok (.aload_n 0, 1) := by decide +kernel
theorem dX10_takesShun_37 : decode cX10_takesShun 37 = .ok (.getfield 105, 3) := by decide +kernel
theorem dX10_takesShun_40 : decode cX10_takesShun 40 = .ok (.iconst 0, 1) := by decide +kernel
theorem dX10_takesShun_41 : decode cX10_takesShun 41 = .ok (.baload, 1) := by decide +kernel
theorem dX10_takesShun_42 : decode cX10_takesShun 42 = .ok (.ifCond .eq 16, 3) := by decide +kernel
theorem dX10_takesShun_45 : decode cX10_takesShun 45 = .ok (.aload_n 0, 1) := by decide +kernel
theorem dX10_takesShun_46 : decode cX10_takesShun 46 = .ok (.dup, 1) := by decide +kernel
theorem dX10_takesShun_47 : decode cX10_takesShun 47 = .ok (.getfield 74, 3) := by decide +kernel
theorem dX10_takesShun_50 : decode cX10_takesShun 50 = .ok (.aload_n 0, 1) := by decide +kernel
theorem dX10_takesShun_51 : decode cX10_takesShun 51 = .ok (.getfield 71, 3) := by decide +kernel
theorem dX10_takesShun_54 : decode cX10_takesShun 54 = .ok (.iadd, 1) := by decide +kernel
theorem dX10_takesShun_55 : decode cX10_takesShun 55 = .ok (.putfield 74, 3) := by decide +kernel
theorem dX10_takesShun_58 : decode cX10_takesShun 58 = .ok (.iconst 1, 1) := by decide +kernel
theorem dX10_takesShun_59 : decode cX10_takesShun 59 = .ok (.ireturn, 1) := by decide +kernel
theorem dX10_takesClause_0 : decode cX10_takesClause 0 = .ok (.aload_n 0, 1) := by decide +kernel
theorem dX10_takesClause_1 : decode cX10_takesClause 1 = .ok (.invokevirtual 232, 3) := by decide +kernel
theorem dX10_takesClause_4 : decode cX10_takesClause 4 = .ok (.istore_n 1, 1) := by decide +kernel
theorem dX10_takesClause_5 : decode cX10_takesClause 5 = .ok (.iload_n 1, 1) := by decide +kernel
theorem dX10_takesClause_6 : decode cX10_takesClause 6 = .ok (.tableswitch 275 99 112 #[120, 155, 275, 275, 275, 275, 275, 275, 275, 70, 125, 95, 275, 215], 70) := by decide +kernel
theorem dX10_takesClause_76 : decode cX10_takesClause 76 = .ok (.aload_n 0, 1) := by decide +kernel
theorem dX10_takesClause_77 : decode cX10_takesClause 77 = .ok (.ldc_w 269, 3) := by decide +kernel
theorem dX10_takesClause_80 : decode cX10_takesClause 80 = .ok (.iconst 4, 1) := by decide +kernel
theorem dX10_takesClause_81 : decode cX10_takesClause 81 = .ok (.invokevirtual 261, 3) := by decide +kernel
theorem dX10_takesClause_84 : decode cX10_takesClause 84 = .ok (.ifCond .eq 15, 3) := by decide +kernel
theorem dX10_takesClause_87 : decode cX10_takesClause 87 = .ok (.aload_n 0, 1) := by decide +kernel
theorem dX10_takesClause_88 : decode cX10_takesClause 88 = .ok (.iconst 0, 1) := by decide +kernel
theorem dX10_takesClause_89 : decode cX10_takesClause 89 = .ok (.invokevirtual 270, 3) := by decide +kernel
theorem dX10_takesClause_92 : decode cX10_takesClause 92 = .ok (.ifCond .eq 7, 3) := by decide +kernel
theorem dX10_takesClause_95 : decode cX10_takesClause 95 = .ok (.iconst 1, 1) := by decide +kernel
theorem dX10_takesClause_96 : decode cX10_takesClause 96 = .ok (.goto 4, 3) := by decide +kernel
theorem dX10_takesClause_99 : decode cX10_takesClause 99 = .ok (.iconst 0, 1) := by decide +kernel
theorem dX10_takesClause_100 : decode cX10_takesClause 100 = .ok (.ireturn, 1) := by decide +kernel
theorem dX10_takesClause_101 : decode cX10_takesClause 101 = .ok (.aload_n 0, 1) := by decide +kernel
theorem dX10_takesClause_102 : decode cX10_takesClause 102 = .ok (.ldc_w 273, 3) := by decide +kernel
theorem dX10_takesClause_105 : decode cX10_takesClause 105 = .ok (.iconst 4, 1) := by decide +kernel
theorem dX10_takesClause_106 : decode cX10_takesClause 106 = .ok (.invokevirtual 261, 3) := by decide +kernel
theorem dX10_takesClause_109 : decode cX10_takesClause 109 = .ok (.ifCond .eq 15, 3) := by decide +kernel
theorem dX10_takesClause_112 : decode cX10_takesClause 112 = .ok (.aload_n 0, 1) := by decide +kernel
theorem dX10_takesClause_113 : decode cX10_takesClause 113 = .ok (.iconst 1, 1) := by decide +kernel
theorem dX10_takesClause_114 : decode cX10_takesClause 114 = .ok (.invokevirtual 270, 3) := by decide +kernel
theorem dX10_takesClause_117 : decode cX10_takesClause 117 = .ok (.ifCond .eq 7, 3) := by decide +kernel
theorem dX10_takesClause_120 : decode cX10_takesClause 120 = .ok (.iconst 1, 1) := by decide +kernel
theorem dX10_takesClause_121 : decode cX10_takesClause 121 = .ok (.goto 4, 3) := by decide +kernel
theorem dX10_takesClause_124 : decode cX10_takesClause 124 = .ok (.iconst 0, 1) := by decide +kernel
theorem dX10_takesClause_125 : decode cX10_takesClause 125 = .ok (.ireturn, 1) := by decide +kernel
theorem dX10_takesClause_126 : decode cX10_takesClause 126 = .ok (.aload_n 0, 1) := by decide +kernel
theorem dX10_takesClause_127 : decode cX10_takesClause 127 = .ok (.invokevirtual 274, 3) := by decide +kernel
theorem dX10_takesClause_130 : decode cX10_takesClause 130 = .ok (.ireturn, 1) := by decide +kernel
theorem dX10_takesClause_131 : decode cX10_takesClause 131 = .ok (.aload_n 0, 1) := by decide +kernel
theorem dX10_takesClause_132 : decode cX10_takesClause 132 = .ok (.ldc_w 277, 3) := by decide +kernel
theorem dX10_takesClause_135 : decode cX10_takesClause 135 = .ok (.iconst 4, 1) := by decide +kernel
theorem dX10_takesClause_136 : decode cX10_takesClause 136 = .ok (.invokevirtual 261, 3) := by decide +kernel
theorem dX10_takesClause_139 : decode cX10_takesClause 139 = .ok (.ifCond .eq 10, 3) := by decide +kernel
theorem dX10_takesClause_142 : decode cX10_takesClause 142 = .ok (.aload_n 0, 1) := by decide +kernel
theorem dX10_takesClause_143 : decode cX10_takesClause 143 = .ok (.invokevirtual 243, 3) := by decide +kernel
theorem dX10_takesClause_146 : decode cX10_takesClause 146 = .ok (.ifCond .ne 5, 3) := by decide +kernel
theorem dX10_takesClause_149 : decode cX10_takesClause 149 = .ok (.iconst 0, 1) := by decide +kernel
theorem dX10_takesClause_150 : decode cX10_takesClause 150 = .ok (.ireturn, 1) := by decide +kernel
theorem dX10_takesClause_151 : decode cX10_takesClause 151 = .ok (.aload_n 0, 1) := by decide +kernel
theorem dX10_takesClause_152 : decode cX10_takesClause 152 = .ok (.aload_n 0, 1) := by decide +kernel
theorem dX10_takesClause_153 : decode cX10_takesClause 153 = .ok (.getfield 71, 3) := by decide +kernel
theorem dX10_takesClause_156 : decode cX10_takesClause 156 = .ok (.putfield 127, 3) := by decide +kernel
theorem dX10_takesClause_159 : decode cX10_takesClause 159 = .ok (.iconst 1, 1) := by decide +kernel
theorem dX10_takesClause_160 : decode cX10_takesClause 160 = .ok (.ireturn, 1) := by decide +kernel
theorem dX10_takesClause_161 : decode cX10_takesClause 161 = .ok (.aload_n 0, 1) := by decide +kernel
theorem dX10_takesClause_162 : decode cX10_takesClause 162 = .ok (.ldc_w 278, 3) := by decide +kernel
theorem dX10_takesClause_165 : decode cX10_takesClause 165 = .ok (.iconst 4, 1) := by decide +kernel
theorem dX10_takesClause_166 : decode cX10_takesClause 166 = .ok (.invokevirtual 261, 3) := by decide +kernel
theorem dX10_takesClause_169 : decode cX10_takesClause 169 = .ok (.ifCond .eq 30, 3) := by decide +kernel
theorem dX10_takesClause_172 : decode cX10_takesClause 172 = .ok (.aload_n 0, 1) := by decide +kernel
theorem dX10_takesClause_173 : decode cX10_takesClause 173 = .ok (.invokevirtual 232, 3) := by decide +kernel
theorem dX10_takesClause_176 : decode cX10_takesClause 176 = .ok (.bipush 104, 2) := by decide +kernel
theorem dX10_takesClause_178 : decode cX10_takesClause 178 = .ok (.if_icmp .eq 23, 3) := by decide +kernel
theorem dX10_takesClause_181 : decode cX10_takesClause 181 = .ok (.aload_n 0, 1) := by decide +kernel
theorem dX10_takesClause_182 : decode cX10_takesClause 182 = .ok (.invokevirtual 232, 3) := by decide +kernel
theorem dX10_takesClause_185 : decode cX10_takesClause 185 = .ok (.bipush 105, 2) := by decide +kernel
theorem dX10_takesClause_187 : decode cX10_takesClause 187 = .ok (.if_icmp .eq 14, 3) := by decide +kernel
theorem dX10_takesClause_190 : decode cX10_takesClause 190 = .ok (.aload_n 0, 1) := by decide +kernel
theorem dX10_takesClause_191 : decode cX10_takesClause 191 = .ok (.invokevirtual 232, 3) := by decide +kernel
theorem dX10_takesClause_194 : decode cX10_takesClause 194 = .ok (.bipush 101, 2) := by decide +kernel
theorem dX10_takesClause_196 : decode cX10_takesClause 196 = .ok (.if_icmp .eq 5, 3) := by decide +kernel
theorem dX10_takesClause_199 : decode cX10_takesClause 199 = .ok (.iconst 0, 1) := by decide +kernel
theorem dX10_takesClause_200 : decode cX10_takesClause 200 = .ok (.ireturn, 1) := by decide +kernel
theorem dX10_takesClause_201 : decode cX10_takesClause 201 = .ok (.aload_n 0, 1) := by decide +kernel
theorem dX10_takesClause_202 : decode cX10_takesClause 202 = .ok (.aload_n 0, 1) := by decide +kernel
theorem dX10_takesClause_203 : decode cX10_takesClause 203 = .ok (.invokevirtual 232, 3) := by decide +kernel
theorem dX10_takesClause_206 : decode cX10_takesClause 206 = .ok (.putfield 130, 3) := by decide +kernel
theorem dX10_takesClause_209 : decode cX10_takesClause 209 = .ok (.aload_n 0, 1) := by decide +kernel
theorem dX10_takesClause_210 : decode cX10_takesClause 210 = .ok (.dup, 1) := by decide +kernel
theorem dX10_takesClause_211 : decode cX10_takesClause 211 = .ok (.getfield 68, 3) := by decide +kernel
theorem dX10_takesClause_214 : decode cX10_takesClause 214 = .ok (.iconst 1, 1) := by decide +kernel
theorem dX10_takesClause_215 : decode cX10_takesClause 215 = .ok (.iadd, 1) := by decide +kernel
theorem dX10_takesClause_216 : decode cX10_takesClause 216 = .ok (.putfield 68, 3) := by decide +kernel
theorem dX10_takesClause_219 : decode cX10_takesClause 219 = .ok (.iconst 1, 1) := by decide +kernel
theorem dX10_takesClause_220 : decode cX10_takesClause 220 = .ok (.ireturn, 1) := by decide +kernel
theorem dX10_takesClause_221 : decode cX10_takesClause 221 = .ok (.aload_n 0, 1) := by decide +kernel
theorem dX10_takesClause_222 : decode cX10_takesClause 222 = .ok (.ldc_w 279, 3) := by decide +kernel
theorem dX10_takesClause_225 : decode cX10_takesClause 225 = .ok (.iconst 4, 1) := by decide +kernel
theorem dX10_takesClause_226 : decode cX10_takesClause 226 = .ok (.invokevirtual 261, 3) := by decide +kernel
theorem dX10_takesClause_229 : decode cX10_takesClause 229 = .ok (.ifCond .eq 30, 3) := by decide +kernel
theorem dX10_takesClause_232 : decode cX10_takesClause 232 = .ok (.aload_n 0, 1) := by decide +kernel
theorem dX10_takesClause_233 : decode cX10_takesClause 233 = .ok (.invokevirtual 232, 3) := by decide +kernel
theorem dX10_takesClause_236 : decode cX10_takesClause 236 = .ok (.bipush 109, 2) := by decide +kernel
theorem dX10_takesClause_238 : decode cX10_takesClause 238 = .ok (.if_icmp .eq 23, 3) := by decide +kernel
theorem dX10_takesClause_241 : decode cX10_takesClause 241 = .ok (.aload_n 0, 1) := by decide +kernel
theorem dX10_takesClause_242 : decode cX10_takesClause 242 = .ok (.invokevirtual 232, 3) := by decide +kernel
theorem dX10_takesClause_245 : decode cX10_takesClause 245 = .ok (.bipush 100, 2) := by decide +kernel
theorem dX10_takesClause_247 : decode cX10_takesClause 247 = .ok (.if_icmp .eq 14, 3) := by decide +kernel
theorem dX10_takesClause_250 : decode cX10_takesClause 250 = .ok (.aload_n 0, 1) := by decide +kernel
theorem dX10_takesClause_251 : decode cX10_takesClause 251 = .ok (.invokevirtual 232, 3) := by decide +kernel
theorem dX10_takesClause_254 : decode cX10_takesClause 254 = .ok (.bipush 111, 2) := by decide +kernel
theorem dX10_takesClause_256 : decode cX10_takesClause 256 = .ok (.if_icmp .eq 5, 3) := by decide +kernel
theorem dX10_takesClause_259 : decode cX10_takesClause 259 = .ok (.iconst 0, 1) := by decide +kernel
theorem dX10_takesClause_260 : decode cX10_takesClause 260 = .ok (.ireturn, 1) := by decide +kernel
theorem dX10_takesClause_261 : decode cX10_takesClause 261 = .ok (.aload_n 0, 1) := by decide +kernel
theorem dX10_takesClause_262 : decode cX10_takesClause 262 = .ok (.aload_n 0, 1) := by decide +kernel
theorem dX10_takesClause_263 : decode cX10_takesClause 263 = .ok (.invokevirtual 232, 3) := by decide +kernel
theorem dX10_takesClause_266 : decode cX10_takesClause 266 = .ok (.putfield 133, 3) := by decide +kernel
theorem dX10_takesClause_269 : decode cX10_takesClause 269 = .ok (.aload_n 0, 1) := by decide +kernel
theorem dX10_takesClause_270 : decode cX10_takesClause 270 = .ok (.dup, 1) := by decide +kernel
theorem dX10_takesClause_271 : decode cX10_takesClause 271 = .ok (.getfield 68, 3) := by decide +kernel
theorem dX10_takesClause_274 : decode cX10_takesClause 274 = .ok (.iconst 1, 1) := by decide +kernel
theorem dX10_takesClause_275 : decode cX10_takesClause 275 = .ok (.iadd, 1) := by decide +kernel
theorem dX10_takesClause_276 : decode cX10_takesClause 276 = .ok (.putfield 68, 3) := by decide +kernel
theorem dX10_takesClause_279 : decode cX10_takesClause 279 = .ok (.iconst 1, 1) := by decide +kernel
theorem dX10_takesClause_280 : decode cX10_takesClause 280 = .ok (.ireturn, 1) := by decide +kernel
theorem dX10_takesClause_281 : decode cX10_takesClause 281 = .ok (.aload_n 0, 1) := by decide +kernel
theorem dX10_takesClause_282 : decode cX10_takesClause 282 = .ok (.invokevirtual 280, 3) := by decide +kernel
theorem dX10_takesClause_285 : decode cX10_takesClause 285 = .ok (.ireturn, 1) := by decide +kernel
theorem dX10_goes_0 : decode cX10_goes 0 = .ok (.aload_n 0, 1) := by decide +kernel
theorem dX10_goes_1 : decode cX10_goes 1 = .ok (.bipush 120, 2) := by decide +kernel
theorem dX10_goes_3 : decode cX10_goes 3 = .ok (.iload_n 1, 1) := by decide +kernel
theorem dX10_goes_4 : decode cX10_goes 4 = .ok (.imul, 1) := by decide +kernel
theorem dX10_goes_5 : decode cX10_goes 5 = .ok (.putfield 62, 3) := by decide +kernel
theorem dX10_goes_8 : decode cX10_goes 8 = .ok (.aload_n 0, 1) := by decide +kernel
theorem dX10_goes_9 : decode cX10_goes 9 = .ok (.aload_n 0, 1) := by decide +kernel
theorem dX10_goes_10 : decode cX10_goes 10 = .ok (.getfield 56, 3) := by decide +kernel
theorem dX10_goes_13 : decode cX10_goes 13 = .ok (.iload_n 1, 1) := by decide +kernel
theorem dX10_goes_14 : decode cX10_goes 14 = .ok (.iaload, 1) := by decide +kernel
theorem dX10_goes_15 : decode cX10_goes 15 = .ok (.putfield 65, 3) := by decide +kernel
theorem dX10_goes_18 : decode cX10_goes 18 = .ok (.aload_n 0, 1) := by decide +kernel
theorem dX10_goes_19 : decode cX10_goes 19 = .ok (.iconst 0, 1) := by decide +kernel
theorem dX10_goes_20 : decode cX10_goes 20 = .ok (.putfield 68, 3) := by decide +kernel
theorem dX10_goes_23 : decode cX10_goes 23 = .ok (.aload_n 0, 1) := by decide +kernel
theorem dX10_goes_24 : decode cX10_goes 24 = .ok (.iconst 0, 1) := by decide +kernel
theorem dX10_goes_25 : decode cX10_goes 25 = .ok (.putfield 74, 3) := by decide +kernel
theorem dX10_goes_28 : decode cX10_goes 28 = .ok (.iconst 0, 1) := by decide +kernel
theorem dX10_goes_29 : decode cX10_goes 29 = .ok (.istore_n 2, 1) := by decide +kernel
theorem dX10_goes_30 : decode cX10_goes 30 = .ok (.iconst 0, 1) := by decide +kernel
theorem dX10_goes_31 : decode cX10_goes 31 = .ok (.istore_n 3, 1) := by decide +kernel
theorem dX10_goes_32 : decode cX10_goes 32 = .ok (.iload_n 3, 1) := by decide +kernel
theorem dX10_goes_33 : decode cX10_goes 33 = .ok (.bipush 12, 2) := by decide +kernel
theorem dX10_goes_35 : decode cX10_goes 35 = .ok (.if_icmp .ge 16, 3) := by decide +kernel
theorem dX10_goes_38 : decode cX10_goes 38 = .ok (.aload_n 0, 1) := by decide +kernel
theorem dX10_goes_39 : decode cX10_goes 39 = .ok (.getfield 118, 3) := by decide +kernel
theorem dX10_goes_42 : decode cX10_goes 42 = .ok (.iload_n 3, 1) := by decide +kernel
theorem dX10_goes_43 : decode cX10_goes 43 = .ok (.iconst 0, 1) := by decide +kernel
theorem dX10_goes_44 : decode cX10_goes 44 = .ok (.iastore, 1) := by decide +kernel
theorem dX10_goes_45 : decode cX10_goes 45 = .ok (.iinc 3 1, 3) := by decide +kernel
theorem dX10_goes_48 : decode cX10_goes 48 = .ok (.goto (-16), 3) := by decide +kernel
theorem dX10_goes_51 : decode cX10_goes 51 = .ok (.iconst 0, 1) := by decide +kernel
theorem dX10_goes_52 : decode cX10_goes 52 = .ok (.istore_n 3, 1) := by decide +kernel
theorem dX10_goes_53 : decode cX10_goes 53 = .ok (.iload_n 3, 1) := by decide +kernel
theorem dX10_goes_54 : decode cX10_goes 54 = .ok (.bipush 16, 2) := by decide +kernel
theorem dX10_goes_56 : decode cX10_goes 56 = .ok (.if_icmp .ge 16, 3) := by decide +kernel
theorem dX10_goes_59 : decode cX10_goes 59 = .ok (.aload_n 0, 1) := by decide +kernel
theorem dX10_goes_60 : decode cX10_goes 60 = .ok (.getfield 121, 3) := by decide +kernel
theorem dX10_goes_63 : decode cX10_goes 63 = .ok (.iload_n 3, 1) := by decide +kernel
theorem dX10_goes_64 : decode cX10_goes 64 = .ok (.iconst 0, 1) := by decide +kernel
theorem dX10_goes_65 : decode cX10_goes 65 = .ok (.iastore, 1) := by decide +kernel
theorem dX10_goes_66 : decode cX10_goes 66 = .ok (.iinc 3 1, 3) := by decide +kernel
theorem dX10_goes_69 : decode cX10_goes 69 = .ok (.goto (-16), 3) := by decide +kernel
theorem dX10_goes_72 : decode cX10_goes 72 = .ok (.iconst 0, 1) := by decide +kernel
theorem dX10_goes_73 : decode cX10_goes 73 = .ok (.istore_n 3, 1) := by decide +kernel
theorem dX10_goes_74 : decode cX10_goes 74 = .ok (.iload_n 3, 1) := by decide +kernel
theorem dX10_goes_75 : decode cX10_goes 75 = .ok (.iconst 3, 1) := by decide +kernel
theorem dX10_goes_76 : decode cX10_goes 76 = .ok (.if_icmp .ge 17, 3) := by decide +kernel
theorem dX10_goes_79 : decode cX10_goes 79 = .ok (.aload_n 0, 1) := by decide +kernel
theorem dX10_goes_80 : decode cX10_goes 80 = .ok (.getfield 124, 3) := by decide +kernel
theorem dX10_goes_83 : decode cX10_goes 83 = .ok (.iload_n 3, 1) := by decide +kernel
theorem dX10_goes_84 : decode cX10_goes 84 = .ok (.bipush 10, 2) := by decide +kernel
theorem dX10_goes_86 : decode cX10_goes 86 = .ok (.iastore, 1) := by decide +kernel
theorem dX10_goes_87 : decode cX10_goes 87 = .ok (.iinc 3 1, 3) := by decide +kernel
theorem dX10_goes_90 : decode cX10_goes 90 = .ok (.goto (-16), 3) := by decide +kernel
theorem dX10_goes_93 : decode cX10_goes 93 = .ok (.aload_n 0, 1) := by decide +kernel
theorem dX10_goes_94 : decode cX10_goes 94 = .ok (.iconst 0, 1) := by decide +kernel
theorem dX10_goes_95 : decode cX10_goes 95 = .ok (.putfield 127, 3) := by decide +kernel
theorem dX10_goes_98 : decode cX10_goes 98 = .ok (.aload_n 0, 1) := by decide +kernel
theorem dX10_goes_99 : decode cX10_goes 99 = .ok (.bipush 104, 2) := by decide +kernel
theorem dX10_goes_101 : decode cX10_goes 101 = .ok (.putfield 130, 3) := by decide +kernel
theorem dX10_goes_104 : decode cX10_goes 104 = .ok (.aload_n 0, 1) := by decide +kernel
theorem dX10_goes_105 : decode cX10_goes 105 = .ok (.bipush 109, 2) := by decide +kernel
theorem dX10_goes_107 : decode cX10_goes 107 = .ok (.putfield 133, 3) := by decide +kernel
theorem dX10_goes_110 : decode cX10_goes 110 = .ok (.aload_n 0, 1) := by decide +kernel
theorem dX10_goes_111 : decode cX10_goes 111 = .ok (.invokevirtual 283, 3) := by decide +kernel
theorem dX10_goes_114 : decode cX10_goes 114 = .ok (.ifCond .ne 5, 3) := by decide +kernel
theorem dX10_goes_117 : decode cX10_goes 117 = .ok (.iconst 0, 1) := by decide +kernel
theorem dX10_goes_118 : decode cX10_goes 118 = .ok (.ireturn, 1) := by decide +kernel
theorem dX10_goes_119 : decode cX10_goes 119 = .ok (.iinc 2 1, 3) := by decide +kernel
theorem dX10_goes_122 : decode cX10_goes 122 = .ok (.aload_n 0, 1) := by decide +kernel
theorem dX10_goes_123 : decode cX10_goes 123 = .ok (.getfield 68, 3) := by decide +kernel
theorem dX10_goes_126 : decode cX10_goes 126 = .ok (.aload_n 0, 1) := by decide +kernel
theorem dX10_goes_127 : decode cX10_goes 127 = .ok (.getfield 65, 3) := by decide +kernel
theorem dX10_goes_130 : decode cX10_goes 130 = .ok (.if_icmp .ne 5, 3) := by decide +kernel
theorem dX10_goes_133 : decode cX10_goes 133 = .ok (.iconst 1, 1) := by decide +kernel
theorem dX10_goes_134 : decode cX10_goes 134 = .ok (.ireturn, 1) := by decide +kernel
theorem dX10_goes_135 : decode cX10_goes 135 = .ok (.iload_n 2, 1) := by decide +kernel
theorem dX10_goes_136 : decode cX10_goes 136 = .ok (.bipush 10, 2) := by decide +kernel
theorem dX10_goes_138 : decode cX10_goes 138 = .ok (.if_icmp .eq 12, 3) := by decide +kernel
theorem dX10_goes_141 : decode cX10_goes 141 = .ok (.aload_n 0, 1) := by decide +kernel
theorem dX10_goes_142 : decode cX10_goes 142 = .ok (.bipush 59, 2) := by decide +kernel
theorem dX10_goes_144 : decode cX10_goes 144 = .ok (.invokevirtual 236, 3) := by decide +kernel
theorem dX10_goes_147 : decode cX10_goes 147 = .ok (.ifCond .ne (-37), 3) := by decide +kernel
theorem dX10_goes_150 : decode cX10_goes 150 = .ok (.iconst 0, 1) := by decide +kernel
theorem dX10_goes_151 : decode cX10_goes 151 = .ok (.ireturn, 1) := by decide +kernel
theorem dX10_land_0 : decode cX10_land 0 = .ok (.aload_n 0, 1) := by decide +kernel
theorem dX10_land_1 : decode cX10_land 1 = .ok (.getfield 56, 3) := by decide +kernel
theorem dX10_land_4 : decode cX10_land 4 = .ok (.iconst 1, 1) := by decide +kernel
theorem dX10_land_5 : decode cX10_land 5 = .ok (.aload_n 0, 1) := by decide +kernel
theorem dX10_land_6 : decode cX10_land 6 = .ok (.getfield 50, 3) := by decide +kernel
theorem dX10_land_9 : decode cX10_land 9 = .ok (.iastore, 1) := by decide +kernel
theorem dX10_land_10 : decode cX10_land 10 = .ok (.aload_n 0, 1) := by decide +kernel
theorem dX10_land_11 : decode cX10_land 11 = .ok (.iconst 0, 1) := by decide +kernel
theorem dX10_land_12 : decode cX10_land 12 = .ok (.putfield 50, 3) := by decide +kernel
theorem dX10_land_15 : decode cX10_land 15 = .ok (.aload_n 0, 1) := by decide +kernel
theorem dX10_land_16 : decode cX10_land 16 = .ok (.iconst 1, 1) := by decide +kernel
theorem dX10_land_17 : decode cX10_land 17 = .ok (.invokevirtual 286, 3) := by decide +kernel
theorem dX10_land_20 : decode cX10_land 20 = .ok (.ifCond .ne 11, 3) := by decide +kernel
theorem dX10_land_23 : decode cX10_land 23 = .ok (.bipush (-10), 2) := by decide +kernel
theorem dX10_land_25 : decode cX10_land 25 = .ok (.aload_n 0, 1) := by decide +kernel
theorem dX10_land_26 : decode cX10_land 26 = .ok (.getfield 68, 3) := by decide +kernel
theorem dX10_land_29 : decode cX10_land 29 = .ok (.isub, 1) := by decide +kernel
theorem dX10_land_30 : decode cX10_land 30 = .ok (.ireturn, 1) := by decide +kernel
theorem dX10_land_31 : decode cX10_land 31 = .ok (.aload_n 0, 1) := by decide +kernel
theorem dX10_land_32 : decode cX10_land 32 = .ok (.getfield 56, 3) := by decide +kernel
theorem dX10_land_35 : decode cX10_land 35 = .ok (.iconst 0, 1) := by decide +kernel
theorem dX10_land_36 : decode cX10_land 36 = .ok (.aload_n 0, 1) := by decide +kernel
theorem dX10_land_37 : decode cX10_land 37 = .ok (.getfield 56, 3) := by decide +kernel
theorem dX10_land_40 : decode cX10_land 40 = .ok (.iconst 1, 1) := by decide +kernel
theorem dX10_land_41 : decode cX10_land 41 = .ok (.iaload, 1) := by decide +kernel
theorem dX10_land_42 : decode cX10_land 42 = .ok (.iastore, 1) := by decide +kernel
theorem dX10_land_43 : decode cX10_land 43 = .ok (.iconst 0, 1) := by decide +kernel
theorem dX10_land_44 : decode cX10_land 44 = .ok (.istore_n 1, 1) := by decide +kernel
theorem dX10_land_45 : decode cX10_land 45 = .ok (.iload_n 1, 1) := by decide +kernel
theorem dX10_land_46 : decode cX10_land 46 = .ok (.aload_n 0, 1) := by decide +kernel
theorem dX10_land_47 : decode cX10_land 47 = .ok (.getfield 56, 3) := by decide +kernel
theorem dX10_land_50 : decode cX10_land 50 = .ok (.iconst 1, 1) := by decide +kernel
theorem dX10_land_51 : decode cX10_land 51 = .ok (.iaload, 1) := by decide +kernel
theorem dX10_land_52 : decode cX10_land 52 = .ok (.if_icmp .ge 24, 3) := by decide +kernel
theorem dX10_land_55 : decode cX10_land 55 = .ok (.aload_n 0, 1) := by decide +kernel
theorem dX10_land_56 : decode cX10_land 56 = .ok (.getfield 53, 3) := by decide +kernel
theorem dX10_land_59 : decode cX10_land 59 = .ok (.iload_n 1, 1) := by decide +kernel
theorem dX10_land_60 : decode cX10_land 60 = .ok (.aload_n 0, 1) := by decide +kernel
theorem dX10_land_61 : decode cX10_land 61 = .ok (.getfield 53, 3) := by decide +kernel
theorem dX10_land_64 : decode cX10_land 64 = .ok (.bipush 120, 2) := by decide +kernel
theorem dX10_land_66 : decode cX10_land 66 = .ok (.iload_n 1, 1) := by decide +kernel
theorem dX10_land_67 : decode cX10_land 67 = .ok (.iadd, 1) := by decide +kernel
theorem dX10_land_68 : decode cX10_land 68 = .ok (.iaload, 1) := by decide +kernel
theorem dX10_land_69 : decode cX10_land 69 = .ok (.iastore, 1) := by decide +kernel
theorem dX10_land_70 : decode cX10_land 70 = .ok (.iinc 1 1, 3) := by decide +kernel
theorem dX10_land_73 : decode cX10_land 73 = .ok (.goto (-28), 3) := by decide +kernel
theorem dX10_land_76 : decode cX10_land 76 = .ok (.iconst 0, 1) := by decide +kernel
theorem dX10_land_77 : decode cX10_land 77 = .ok (.istore_n 1, 1) := by decide +kernel
theorem dX10_land_78 : decode cX10_land 78 = .ok (.iload_n 1, 1) := by decide +kernel
theorem dX10_land_79 : decode cX10_land 79 = .ok (.bipush 12, 2) := by decide +kernel
theorem dX10_land_81 : decode cX10_land 81 = .ok (.if_icmp .ge 21, 3) := by decide +kernel
theorem dX10_land_84 : decode cX10_land 84 = .ok (.aload_n 0, 1) := by decide +kernel
theorem dX10_land_85 : decode cX10_land 85 = .ok (.getfield 77, 3) := by decide +kernel
theorem dX10_land_88 : decode cX10_land 88 = .ok (.iload_n 1, 1) := by decide +kernel
theorem dX10_land_89 : decode cX10_land 89 = .ok (.aload_n 0, 1) := by decide +kernel
theorem dX10_land_90 : decode cX10_land 90 = .ok (.getfield 118, 3) := by decide +kernel
theorem dX10_land_93 : decode cX10_land 93 = .ok (.iload_n 1, 1) := by decide +kernel
theorem dX10_land_94 : decode cX10_land 94 = .ok (.iaload, 1) := by decide +kernel
theorem dX10_land_95 : decode cX10_land 95 = .ok (.iastore, 1) := by decide +kernel
theorem dX10_land_96 : decode cX10_land 96 = .ok (.iinc 1 1, 3) := by decide +kernel
theorem dX10_land_99 : decode cX10_land 99 = .ok (.goto (-21), 3) := by decide +kernel
theorem dX10_land_102 : decode cX10_land 102 = .ok (.iconst 0, 1) := by decide +kernel
theorem dX10_land_103 : decode cX10_land 103 = .ok (.istore_n 1, 1) := by decide +kernel
theorem dX10_land_104 : decode cX10_land 104 = .ok (.iload_n 1, 1) := by decide +kernel
theorem dX10_land_105 : decode cX10_land 105 = .ok (.bipush 16, 2) := by decide +kernel
theorem dX10_land_107 : decode cX10_land 107 = .ok (.if_icmp .ge 21, 3) := by decide +kernel
theorem dX10_land_110 : decode cX10_land 110 = .ok (.aload_n 0, 1) := by decide +kernel
theorem dX10_land_111 : decode cX10_land 111 = .ok (.getfield 80, 3) := by decide +kernel
theorem dX10_land_114 : decode cX10_land 114 = .ok (.iload_n 1, 1) := by decide +kernel
theorem dX10_land_115 : decode cX10_land 115 = .ok (.aload_n 0, 1) := by decide +kernel
theorem dX10_land_116 : decode cX10_land 116 = .ok (.getfield 121, 3) := by decide +kernel
theorem dX10_land_119 : decode cX10_land 119 = .ok (.iload_n 1, 1) := by decide +kernel
theorem dX10_land_120 : decode cX10_land 120 = .ok (.iaload, 1) := by decide +kernel
theorem dX10_land_121 : decode cX10_land 121 = .ok (.iastore, 1) := by decide +kernel
theorem dX10_land_122 : decode cX10_land 122 = .ok (.iinc 1 1, 3) := by decide +kernel
theorem dX10_land_125 : decode cX10_land 125 = .ok (.goto (-21), 3) := by decide +kernel
theorem dX10_land_128 : decode cX10_land 128 = .ok (.iconst 0, 1) := by decide +kernel
theorem dX10_land_129 : decode cX10_land 129 = .ok (.istore_n 1, 1) := by decide +kernel
theorem dX10_land_130 : decode cX10_land 130 = .ok (.iload_n 1, 1) := by decide +kernel
theorem dX10_land_131 : decode cX10_land 131 = .ok (.iconst 3, 1) := by decide +kernel
theorem dX10_land_132 : decode cX10_land 132 = .ok (.if_icmp .ge 21, 3) := by decide +kernel
theorem dX10_land_135 : decode cX10_land 135 = .ok (.aload_n 0, 1) := by decide +kernel
theorem dX10_land_136 : decode cX10_land 136 = .ok (.getfield 83, 3) := by decide +kernel
theorem dX10_land_139 : decode cX10_land 139 = .ok (.iload_n 1, 1) := by decide +kernel
theorem dX10_land_140 : decode cX10_land 140 = .ok (.aload_n 0, 1) := by decide +kernel
theorem dX10_land_141 : decode cX10_land 141 = .ok (.getfield 124, 3) := by decide +kernel
theorem dX10_land_144 : decode cX10_land 144 = .ok (.iload_n 1, 1) := by decide +kernel
theorem dX10_land_145 : decode cX10_land 145 = .ok (.iaload, 1) := by decide +kernel
theorem dX10_land_146 : decode cX10_land 146 = .ok (.iastore, 1) := by decide +kernel
theorem dX10_land_147 : decode cX10_land 147 = .ok (.iinc 1 1, 3) := by decide +kernel
theorem dX10_land_150 : decode cX10_land 150 = .ok (.goto (-20), 3) := by decide +kernel
theorem dX10_land_153 : decode cX10_land 153 = .ok (.aload_n 0, 1) := by decide +kernel
theorem dX10_land_154 : decode cX10_land 154 = .ok (.aload_n 0, 1) := by decide +kernel
theorem dX10_land_155 : decode cX10_land 155 = .ok (.getfield 127, 3) := by decide +kernel
theorem dX10_land_158 : decode cX10_land 158 = .ok (.putfield 86, 3) := by decide +kernel
theorem dX10_land_161 : decode cX10_land 161 = .ok (.aload_n 0, 1) := by decide +kernel
theorem dX10_land_162 : decode cX10_land 162 = .ok (.aload_n 0, 1) := by decide +kernel
theorem dX10_land_163 : decode cX10_land 163 = .ok (.getfield 130, 3) := by decide +kernel
theorem dX10_land_166 : decode cX10_land 166 = .ok (.putfield 89, 3) := by decide +kernel
theorem dX10_land_169 : decode cX10_land 169 = .ok (.aload_n 0, 1) := by decide +kernel
theorem dX10_land_170 : decode cX10_land 170 = .ok (.aload_n 0, 1) := by decide +kernel
theorem dX10_land_171 : decode cX10_land 171 = .ok (.getfield 133, 3) := by decide +kernel
theorem dX10_land_174 : decode cX10_land 174 = .ok (.putfield 92, 3) := by decide +kernel
theorem dX10_land_177 : decode cX10_land 177 = .ok (.aload_n 0, 1) := by decide +kernel
theorem dX10_land_178 : decode cX10_land 178 = .ok (.iconst 0, 1) := by decide +kernel
theorem dX10_land_179 : decode cX10_land 179 = .ok (.putfield 98, 3) := by decide +kernel
theorem dX10_land_182 : decode cX10_land 182 = .ok (.aload_n 0, 1) := by decide +kernel
theorem dX10_land_183 : decode cX10_land 183 = .ok (.dup, 1) := by decide +kernel
theorem dX10_land_184 : decode cX10_land 184 = .ok (.getfield 47, 3) := by decide +kernel
theorem dX10_land_187 : decode cX10_land 187 = .ok (.iconst 1, 1) := by decide +kernel
theorem dX10_land_188 : decode cX10_land 188 = .ok (.iadd, 1) := by decide +kernel
theorem dX10_land_189 : decode cX10_land 189 = .ok (.putfield 47, 3) := by decide +kernel
theorem dX10_land_192 : decode cX10_land 192 = .ok (.aload_n 0, 1) := by decide +kernel
theorem dX10_land_193 : decode cX10_land 193 = .ok (.getfield 47, 3) := by decide +kernel
theorem dX10_land_196 : decode cX10_land 196 = .ok (.ireturn, 1) := by decide +kernel
theorem dX10_findShun_0 : decode cX10_findShun 0 = .ok (.aload_n 0, 1) := by decide +kernel
theorem dX10_findShun_1 : decode cX10_findShun 1 = .ok (.iconst 1, 1) := by decide +kernel
theorem dX10_findShun_2 : decode cX10_findShun 2 = .ok (.putfield 98, 3) := by decide +kernel
theorem dX10_findShun_5 : decode cX10_findShun 5 = .ok (.iconst 0, 1) := by decide +kernel
theorem dX10_findShun_6 : decode cX10_findShun 6 = .ok (.istore_n 1, 1) := by decide +kernel
theorem dX10_findShun_7 : decode cX10_findShun 7 = .ok (.iload_n 1, 1) := by decide +kernel
theorem dX10_findShun_8 : decode cX10_findShun 8 = .ok (.aload_n 0, 1) := by decide +kernel
theorem dX10_findShun_9 : decode cX10_findShun 9 = .ok (.getfield 13, 3) := by decide +kernel
theorem dX10_findShun_12 : decode cX10_findShun 12 = .ok (.if_icmp .ge 113, 3) := by decide +kernel
theorem dX10_findShun_15 : decode cX10_findShun 15 = .ok (.iconst 0, 1) := by decide +kernel
theorem dX10_findShun_16 : decode cX10_findShun 16 = .ok (.istore_n 2, 1) := by decide +kernel
theorem dX10_findShun_17 : decode cX10_findShun 17 = .ok (.iload_n 2, 1) := by decide +kernel
theorem dX10_findShun_18 : decode cX10_findShun 18 = .ok (.iconst 4, 1) := by decide +kernel
theorem dX10_findShun_19 : decode cX10_findShun 19 = .ok (.if_icmp .ge 100, 3) := by decide +kernel
theorem dX10_findShun_22 : decode cX10_findShun 22 = .ok (.iconst 1, 1) := by decide +kernel
theorem dX10_findShun_23 : decode cX10_findShun 23 = .ok (.istore_n 3, 1) := by decide +kernel
theorem dX10_findShun_24 : decode cX10_findShun 24 = .ok (.iload_n 3, 1) := by decide +kernel
theorem dX10_findShun_25 : decode cX10_findShun 25 = .ok (.bipush 9, 2) := by decide +kernel
theorem dX10_findShun_27 : decode cX10_findShun 27 = .ok (.if_icmp .ge 86, 3) := by decide +kernel
theorem dX10_findShun_30 : decode cX10_findShun 30 = .ok (.aload_n 0, 1) := by decide +kernel
theorem dX10_findShun_31 : decode cX10_findShun 31 = .ok (.getfield 59, 3) := by decide +kernel
theorem dX10_findShun_34 : decode cX10_findShun 34 = .ok (.iconst 0, 1) := by decide +kernel
theorem dX10_findShun_35 : decode cX10_findShun 35 = .ok (.aload_n 0, 1) := by decide +kernel
theorem dX10_findShun_36 : decode cX10_findShun 36 = .ok (.getfield 35, 3) := by decide +kernel
theorem dX10_findShun_39 : decode cX10_findShun 39 = .ok (.iload_n 1, 1) := by decide +kernel
theorem dX10_findShun_40 : decode cX10_findShun 40 = .ok (.iaload, 1) := by decide +kernel
theorem dX10_findShun_41 : decode cX10_findShun 41 = .ok (.iastore, 1) := by decide +kernel
theorem dX10_findShun_42 : decode cX10_findShun 42 = .ok (.aload_n 0, 1) := by decide +kernel
theorem dX10_findShun_43 : decode cX10_findShun 43 = .ok (.getfield 59, 3) := by decide +kernel
theorem dX10_findShun_46 : decode cX10_findShun 46 = .ok (.iconst 1, 1) := by decide +kernel
theorem dX10_findShun_47 : decode cX10_findShun 47 = .ok (.aload_n 0, 1) := by decide +kernel
theorem dX10_findShun_48 : decode cX10_findShun 48 = .ok (.getfield 38, 3) := by decide +kernel
theorem dX10_findShun_51 : decode cX10_findShun 51 = .ok (.iload_n 1, 1) := by decide +kernel
theorem dX10_findShun_52 : decode cX10_findShun 52 = .ok (.iaload, 1) := by decide +kernel
theorem dX10_findShun_53 : decode cX10_findShun 53 = .ok (.iastore, 1) := by decide +kernel
theorem dX10_findShun_54 : decode cX10_findShun 54 = .ok (.aload_n 0, 1) := by decide +kernel
theorem dX10_findShun_55 : decode cX10_findShun 55 = .ok (.getfield 59, 3) := by decide +kernel
theorem dX10_findShun_58 : decode cX10_findShun 58 = .ok (.iconst 2, 1) := by decide +kernel
theorem dX10_findShun_59 : decode cX10_findShun 59 = .ok (.iload_n 2, 1) := by decide +kernel
theorem dX10_findShun_60 : decode cX10_findShun 60 = .ok (.iastore, 1) := by decide +kernel
theorem dX10_findShun_61 : decode cX10_findShun 61 = .ok (.aload_n 0, 1) := by decide +kernel
theorem dX10_findShun_62 : decode cX10_findShun 62 = .ok (.getfield 59, 3) := by decide +kernel
theorem dX10_findShun_65 : decode cX10_findShun 65 = .ok (.iconst 3, 1) := by decide +kernel
theorem dX10_findShun_66 : decode cX10_findShun 66 = .ok (.iload_n 3, 1) := by decide +kernel
theorem dX10_findShun_67 : decode cX10_findShun 67 = .ok (.iastore, 1) := by decide +kernel
theorem dX10_findShun_68 : decode cX10_findShun 68 = .ok (.aload_n 0, 1) := by decide +kernel
theorem dX10_findShun_69 : decode cX10_findShun 69 = .ok (.getfield 95, 3) := by decide +kernel
theorem dX10_findShun_72 : decode cX10_findShun 72 = .ok (.bipush 36, 2) := by decide +kernel
theorem dX10_findShun_74 : decode cX10_findShun 74 = .ok (.iload_n 1, 1) := by decide +kernel
theorem dX10_findShun_75 : decode cX10_findShun 75 = .ok (.imul, 1) := by decide +kernel
theorem dX10_findShun_76 : decode cX10_findShun 76 = .ok (.bipush 9, 2) := by decide +kernel
theorem dX10_findShun_78 : decode cX10_findShun 78 = .ok (.iload_n 2, 1) := by decide +kernel
theorem dX10_findShun_79 : decode cX10_findShun 79 = .ok (.imul, 1) := by decide +kernel
theorem dX10_findShun_80 : decode cX10_findShun 80 = .ok (.iadd, 1) := by decide +kernel
theorem dX10_findShun_81 : decode cX10_findShun 81 = .ok (.iload_n 3, 1) := by decide +kernel
theorem dX10_findShun_82 : decode cX10_findShun 82 = .ok (.iadd, 1) := by decide +kernel
theorem dX10_findShun_83 : decode cX10_findShun 83 = .ok (.aload_n 0, 1) := by decide +kernel
theorem dX10_findShun_84 : decode cX10_findShun 84 = .ok (.getfield 47, 3) := by decide +kernel
theorem dX10_findShun_87 : decode cX10_findShun 87 = .ok (.ifCond .le 18, 3) := by decide +kernel
theorem dX10_findShun_90 : decode cX10_findShun 90 = .ok (.aload_n 0, 1) := by decide +kernel
theorem dX10_findShun_91 : decode cX10_findShun 91 = .ok (.iconst 0, 1) := by decide +kernel
theorem dX10_findShun_92 : decode cX10_findShun 92 = .ok (.invokevirtual 286, 3) := by decide +kernel
theorem dX10_findShun_95 : decode cX10_findShun 95 = .ok (.ifCond .eq 10, 3) := by decide +kernel
theorem dX10_findShun_98 : decode cX10_findShun 98 = .ok (.aload_n 0, 1) := by decide +kernel
theorem dX10_findShun_99 : decode cX10_findShun 99 = .ok (.getfield 74, 3) := by decide +kernel
theorem dX10_findShun_102 : decode cX10_findShun 102 = .ok (.goto 4, 3) := by decide +kernel
theorem dX10_findShun_105 : decode cX10_findShun 105 = .ok (.iconst 0, 1) := by decide +kernel
theorem dX10_findShun_106 : decode cX10_findShun 106 = .ok (.iastore, 1) := by decide +kernel
theorem dX10_findShun_107 : decode cX10_findShun 107 = .ok (.iinc 3 1, 3) := by decide +kernel
theorem dX10_findShun_110 : decode cX10_findShun 110 = .ok (.goto (-86), 3) := by decide +kernel
theorem dX10_findShun_113 : decode cX10_findShun 113 = .ok (.iinc 2 1, 3) := by decide +kernel
theorem dX10_findShun_116 : decode cX10_findShun 116 = .ok (.goto (-99), 3) := by decide +kernel
theorem dX10_findShun_119 : decode cX10_findShun 119 = .ok (.iinc 1 1, 3) := by decide +kernel
theorem dX10_findShun_122 : decode cX10_findShun 122 = .ok (.goto (-115), 3) := by decide +kernel
theorem dX10_findShun_125 : decode cX10_findShun 125 = .ok (.return_, 1) := by decide +kernel
theorem dX10_costOf_0 : decode cX10_costOf 0 = .ok (.iconst 0, 1) := by decide +kernel
theorem dX10_costOf_1 : decode cX10_costOf 1 = .ok (.istore_n 2, 1) := by decide +kernel
theorem dX10_costOf_2 : decode cX10_costOf 2 = .ok (.iconst 0, 1) := by decide +kernel
theorem dX10_costOf_3 : decode cX10_costOf 3 = .ok (.istore_n 3, 1) := by decide +kernel
theorem dX10_costOf_4 : decode cX10_costOf 4 = .ok (.iload_n 3, 1) := by decide +kernel
theorem dX10_costOf_5 : decode cX10_costOf 5 = .ok (.iconst 3, 1) := by decide +kernel
theorem dX10_costOf_6 : decode cX10_costOf 6 = .ok (.if_icmp .ge 29, 3) := by decide +kernel
theorem dX10_costOf_9 : decode cX10_costOf 9 = .ok (.iload_n 2, 1) := by decide +kernel
theorem dX10_costOf_10 : decode cX10_costOf 10 = .ok (.aload_n 0, 1) := by decide +kernel
theorem dX10_costOf_11 : decode cX10_costOf 11 = .ok (.getfield 23, 3) := by decide +kernel
theorem dX10_costOf_14 : decode cX10_costOf 14 = .ok (.iconst 3, 1) := by decide +kernel
theorem dX10_costOf_15 : decode cX10_costOf 15 = .ok (.iload_n 1, 1) := by decide +kernel
theorem dX10_costOf_16 : decode cX10_costOf 16 = .ok (.imul, 1) := by decide +kernel
theorem dX10_costOf_17 : decode cX10_costOf 17 = .ok (.iload_n 3, 1) := by decide +kernel
theorem dX10_costOf_18 : decode cX10_costOf 18 = .ok (.iadd, 1) := by decide +kernel
theorem dX10_costOf_19 : decode cX10_costOf 19 = .ok (.iaload, 1) := by decide +kernel
theorem dX10_costOf_20 : decode cX10_costOf 20 = .ok (.aload_n 0, 1) := by decide +kernel
theorem dX10_costOf_21 : decode cX10_costOf 21 = .ok (.getfield 83, 3) := by decide +kernel
theorem dX10_costOf_24 : decode cX10_costOf 24 = .ok (.iload_n 3, 1) := by decide +kernel
theorem dX10_costOf_25 : decode cX10_costOf 25 = .ok (.iaload, 1) := by decide +kernel
theorem dX10_costOf_26 : decode cX10_costOf 26 = .ok (.imul, 1) := by decide +kernel
theorem dX10_costOf_27 : decode cX10_costOf 27 = .ok (.iadd, 1) := by decide +kernel
theorem dX10_costOf_28 : decode cX10_costOf 28 = .ok (.istore_n 2, 1) := by decide +kernel
theorem dX10_costOf_29 : decode cX10_costOf 29 = .ok (.iinc 3 1, 3) := by decide +kernel
theorem dX10_costOf_32 : decode cX10_costOf 32 = .ok (.goto (-28), 3) := by decide +kernel
theorem dX10_costOf_35 : decode cX10_costOf 35 = .ok (.iload_n 2, 1) := by decide +kernel
theorem dX10_costOf_36 : decode cX10_costOf 36 = .ok (.aload_n 0, 1) := by decide +kernel
theorem dX10_costOf_37 : decode cX10_costOf 37 = .ok (.getfield 32, 3) := by decide +kernel
theorem dX10_costOf_40 : decode cX10_costOf 40 = .ok (.iload_n 1, 1) := by decide +kernel
theorem dX10_costOf_41 : decode cX10_costOf 41 = .ok (.iaload, 1) := by decide +kernel
theorem dX10_costOf_42 : decode cX10_costOf 42 = .ok (.if_icmp .le 14, 3) := by decide +kernel
theorem dX10_costOf_45 : decode cX10_costOf 45 = .ok (.iload_n 2, 1) := by decide +kernel
theorem dX10_costOf_46 : decode cX10_costOf 46 = .ok (.aload_n 0, 1) := by decide +kernel
theorem dX10_costOf_47 : decode cX10_costOf 47 = .ok (.getfield 32, 3) := by decide +kernel
theorem dX10_costOf_50 : decode cX10_costOf 50 = .ok (.iload_n 1, 1) := by decide +kernel
theorem dX10_costOf_51 : decode cX10_costOf 51 = .ok (.iaload, 1) := by decide +kernel
theorem dX10_costOf_52 : decode cX10_costOf 52 = .ok (.isub, 1) := by decide +kernel
theorem dX10_costOf_53 : decode cX10_costOf 53 = .ok (.goto 4, 3) := by decide +kernel
theorem dX10_costOf_56 : decode cX10_costOf 56 = .ok (.iconst 0, 1) := by decide +kernel
theorem dX10_costOf_57 : decode cX10_costOf 57 = .ok (.ireturn, 1) := by decide +kernel
theorem dX10_dues_0 : decode cX10_dues 0 = .ok (.iconst 0, 1) := by decide +kernel
theorem dX10_dues_1 : decode cX10_dues 1 = .ok (.istore_n 3, 1) := by decide +kernel
theorem dX10_dues_2 : decode cX10_dues 2 = .ok (.iconst 0, 1) := by decide +kernel
theorem dX10_dues_3 : decode cX10_dues 3 = .ok (.istore 4, 2) := by decide +kernel
theorem dX10_dues_5 : decode cX10_dues 5 = .ok (.iconst 0, 1) := by decide +kernel
theorem dX10_dues_6 : decode cX10_dues 6 = .ok (.istore 5, 2) := by decide +kernel
theorem dX10_dues_8 : decode cX10_dues 8 = .ok (.iconst 0, 1) := by decide +kernel
theorem dX10_dues_9 : decode cX10_dues 9 = .ok (.istore 6, 2) := by decide +kernel
theorem dX10_dues_11 : decode cX10_dues 11 = .ok (.iload 6, 2) := by decide +kernel
theorem dX10_dues_13 : decode cX10_dues 13 = .ok (.aload_n 0, 1) := by decide +kernel
theorem dX10_dues_14 : decode cX10_dues 14 = .ok (.getfield 13, 3) := by decide +kernel
theorem dX10_dues_17 : decode cX10_dues 17 = .ok (.if_icmp .ge 70, 3) := by decide +kernel
theorem dX10_dues_20 : decode cX10_dues 20 = .ok (.aload_n 0, 1) := by decide +kernel
theorem dX10_dues_21 : decode cX10_dues 21 = .ok (.getfield 41, 3) := by decide +kernel
theorem dX10_dues_24 : decode cX10_dues 24 = .ok (.iload 6, 2) := by decide +kernel
theorem dX10_dues_26 : decode cX10_dues 26 = .ok (.iaload, 1) := by decide +kernel
theorem dX10_dues_27 : decode cX10_dues 27 = .ok (.iload_n 2, 1) := by decide +kernel
theorem dX10_dues_28 : decode cX10_dues 28 = .ok (.if_icmp .eq 12, 3) := by decide +kernel
theorem dX10_dues_31 : decode cX10_dues 31 = .ok (.iload 6, 2) := by decide +kernel
theorem dX10_dues_33 : decode cX10_dues 33 = .ok (.iload_n 1, 1) := by decide +kernel
theorem dX10_dues_34 : decode cX10_dues 34 = .ok (.if_icmp .eq 6, 3) := by decide +kernel
theorem dX10_dues_37 : decode cX10_dues 37 = .ok (.goto 44, 3) := by decide +kernel
theorem dX10_dues_40 : decode cX10_dues 40 = .ok (.iinc 3 1, 3) := by decide +kernel
theorem dX10_dues_43 : decode cX10_dues 43 = .ok (.iload 4, 2) := by decide +kernel
theorem dX10_dues_45 : decode cX10_dues 45 = .ok (.aload_n 0, 1) := by decide +kernel
theorem dX10_dues_46 : decode cX10_dues 46 = .ok (.getfield 38, 3) := by decide +kernel
theorem dX10_dues_49 : decode cX10_dues 49 = .ok (.iload 6, 2) := by decide +kernel
theorem dX10_dues_51 : decode cX10_dues 51 = .ok (.iaload, 1) := by decide +kernel
theorem dX10_dues_52 : decode cX10_dues 52 = .ok (.iadd, 1) := by decide +kernel
theorem dX10_dues_53 : decode cX10_dues 53 = .ok (.istore 4, 2) := by decide +kernel
theorem dX10_dues_55 : decode cX10_dues 55 = .ok (.aload_n 0, 1) := by decide +kernel
theorem dX10_dues_56 : decode cX10_dues 56 = .ok (.getfield 38, 3) := by decide +kernel
theorem dX10_dues_59 : decode cX10_dues 59 = .ok (.iload 6, 2) := by decide +kernel
theorem dX10_dues_61 : decode cX10_dues 61 = .ok (.iaload, 1) := by decide +kernel
theorem dX10_dues_62 : decode cX10_dues 62 = .ok (.iload 5, 2) := by decide +kernel
theorem dX10_dues_64 : decode cX10_dues 64 = .ok (.if_icmp .le 13, 3) := by decide +kernel
theorem dX10_dues_67 : decode cX10_dues 67 = .ok (.aload_n 0, 1) := by decide +kernel
theorem dX10_dues_68 : decode cX10_dues 68 = .ok (.getfield 38, 3) := by decide +kernel
theorem dX10_dues_71 : decode cX10_dues 71 = .ok (.iload 6, 2) := by decide +kernel
theorem dX10_dues_73 : decode cX10_dues 73 = .ok (.iaload, 1) := by decide +kernel
theorem dX10_dues_74 : decode cX10_dues 74 = .ok (.goto 5, 3) := by decide +kernel
theorem dX10_dues_77 : decode cX10_dues 77 = .ok (.iload 5, 2) := by decide +kernel
theorem dX10_dues_79 : decode cX10_dues 79 = .ok (.istore 5, 2) := by decide +kernel
theorem dX10_dues_81 : decode cX10_dues 81 = .ok (.iinc 6 1, 3) := by decide +kernel
theorem dX10_dues_84 : decode cX10_dues 84 = .ok (.goto (-73), 3) := by decide +kernel
theorem dX10_dues_87 : decode cX10_dues 87 = .ok (.aload_n 0, 1) := by decide +kernel
theorem dX10_dues_88 : decode cX10_dues 88 = .ok (.getfield 89, 3) := by decide +kernel
theorem dX10_dues_91 : decode cX10_dues 91 = .ok (.bipush 104, 2) := by decide +kernel
theorem dX10_dues_93 : decode cX10_dues 93 = .ok (.if_icmp .ne 11, 3) := by decide +kernel
theorem dX10_dues_96 : decode cX10_dues 96 = .ok (.aload_n 0, 1) := by decide +kernel
theorem dX10_dues_97 : decode cX10_dues 97 = .ok (.iload_n 2, 1) := by decide +kernel
theorem dX10_dues_98 : decode cX10_dues 98 = .ok (.invokevirtual 229, 3) := by decide +kernel
theorem dX10_dues_101 : decode cX10_dues 101 = .ok (.iload_n 3, 1) := by decide +kernel
theorem dX10_dues_102 : decode cX10_dues 102 = .ok (.idiv, 1) := by decide +kernel
theorem dX10_dues_103 : decode cX10_dues 103 = .ok (.ireturn, 1) := by decide +kernel
theorem dX10_dues_104 : decode cX10_dues 104 = .ok (.aload_n 0, 1) := by decide +kernel
theorem dX10_dues_105 : decode cX10_dues 105 = .ok (.getfield 89, 3) := by decide +kernel
theorem dX10_dues_108 : decode cX10_dues 108 = .ok (.bipush 105, 2) := by decide +kernel
theorem dX10_dues_110 : decode cX10_dues 110 = .ok (.if_icmp .ne 19, 3) := by decide +kernel
theorem dX10_dues_113 : decode cX10_dues 113 = .ok (.aload_n 0, 1) := by decide +kernel
theorem dX10_dues_114 : decode cX10_dues 114 = .ok (.iload_n 2, 1) := by decide +kernel
theorem dX10_dues_115 : decode cX10_dues 115 = .ok (.invokevirtual 229, 3) := by decide +kernel
theorem dX10_dues_118 : decode cX10_dues 118 = .ok (.aload_n 0, 1) := by decide +kernel
theorem dX10_dues_119 : decode cX10_dues 119 = .ok (.getfield 38, 3) := by decide +kernel
theorem dX10_dues_122 : decode cX10_dues 122 = .ok (.iload_n 1, 1) := by decide +kernel
theorem dX10_dues_123 : decode cX10_dues 123 = .ok (.iaload, 1) := by decide +kernel
theorem dX10_dues_124 : decode cX10_dues 124 = .ok (.imul, 1) := by decide +kernel
theorem dX10_dues_125 : decode cX10_dues 125 = .ok (.iload 4, 2) := by decide +kernel
theorem dX10_dues_127 : decode cX10_dues 127 = .ok (.idiv, 1) := by decide +kernel
theorem dX10_dues_128 : decode cX10_dues 128 = .ok (.ireturn, 1) := by decide +kernel
theorem dX10_dues_129 : decode cX10_dues 129 = .ok (.iconst 0, 1) := by decide +kernel
theorem dX10_dues_130 : decode cX10_dues 130 = .ok (.istore 6, 2) := by decide +kernel
theorem dX10_dues_132 : decode cX10_dues 132 = .ok (.iconst 0, 1) := by decide +kernel
theorem dX10_dues_133 : decode cX10_dues 133 = .ok (.istore 7, 2) := by decide +kernel
theorem dX10_dues_135 : decode cX10_dues 135 = .ok (.iload 7, 2) := by decide +kernel
theorem dX10_dues_137 : decode cX10_dues 137 = .ok (.aload_n 0, 1) := by decide +kernel
theorem dX10_dues_138 : decode cX10_dues 138 = .ok (.getfield 13, 3) := by decide +kernel
theorem dX10_dues_141 : decode cX10_dues 141 = .ok (.if_icmp .ge 50, 3) := by decide +kernel
theorem dX10_dues_144 : decode cX10_dues 144 = .ok (.iload 6, 2) := by decide +kernel
theorem dX10_dues_146 : decode cX10_dues 146 = .ok (.aload_n 0, 1) := by decide +kernel
theorem dX10_dues_147 : decode cX10_dues 147 = .ok (.getfield 41, 3) := by decide +kernel
theorem dX10_dues_150 : decode cX10_dues 150 = .ok (.iload 7, 2) := by decide +kernel
theorem dX10_dues_152 : decode cX10_dues 152 = .ok (.iaload, 1) := by decide +kernel
theorem dX10_dues_153 : decode cX10_dues 153 = .ok (.iload_n 2, 1) := by decide +kernel
theorem dX10_dues_154 : decode cX10_dues 154 = .ok (.if_icmp .eq 9, 3) := by decide +kernel
theorem dX10_dues_157 : decode cX10_dues 157 = .ok (.iload 7, 2) := by decide +kernel
theorem dX10_dues_159 : decode cX10_dues 159 = .ok (.iload_n 1, 1) := by decide +kernel
theorem dX10_dues_160 : decode cX10_dues 160 = .ok (.if_icmp .ne 21, 3) := by decide +kernel
theorem dX10_dues_163 : decode cX10_dues 163 = .ok (.iconst 2, 1) := by decide +kernel
theorem dX10_dues_164 : decode cX10_dues 164 = .ok (.aload_n 0, 1) := by decide +kernel
theorem dX10_dues_165 : decode cX10_dues 165 = .ok (.getfield 38, 3) := by decide +kernel
theorem dX10_dues_168 : decode cX10_dues 168 = .ok (.iload 7, 2) := by decide +kernel
theorem dX10_dues_170 : decode cX10_dues 170 = .ok (.iaload, 1) := by decide +kernel
theorem dX10_dues_171 : decode cX10_dues 171 = .ok (.imul, 1) := by decide +kernel
theorem dX10_dues_172 : decode cX10_dues 172 = .ok (.iload 5, 2) := by decide +kernel
theorem dX10_dues_174 : decode cX10_dues 174 = .ok (.if_icmp .lt 7, 3) := by decide +kernel
theorem dX10_dues_177 : decode cX10_dues 177 = .ok (.iconst 1, 1) := by decide +kernel
theorem dX10_dues_178 : decode cX10_dues 178 = .ok (.goto 4, 3) := by decide +kernel
theorem dX10_dues_181 : decode cX10_dues 181 = .ok (.iconst 0, 1) := by decide +kernel
theorem dX10_dues_182 : decode cX10_dues 182 = .ok (.iadd, 1) := by decide +kernel
theorem dX10_dues_183 : decode cX10_dues 183 = .ok (.istore 6, 2) := by decide +kernel
theorem dX10_dues_185 : decode cX10_dues 185 = .ok (.iinc 7 1, 3) := by decide +kernel
theorem dX10_dues_188 : decode cX10_dues 188 = .ok (.goto (-53), 3) := by decide +kernel
theorem dX10_dues_191 : decode cX10_dues 191 = .ok (.iconst 2, 1) := by decide +kernel
theorem dX10_dues_192 : decode cX10_dues 192 = .ok (.aload_n 0, 1) := by decide +kernel
theorem dX10_dues_193 : decode cX10_dues 193 = .ok (.getfield 38, 3) := by decide +kernel
theorem dX10_dues_196 : decode cX10_dues 196 = .ok (.iload_n 1, 1) := by decide +kernel
theorem dX10_dues_197 : decode cX10_dues 197 = .ok (.iaload, 1) := by decide +kernel
theorem dX10_dues_198 : decode cX10_dues 198 = .ok (.imul, 1) := by decide +kernel
theorem dX10_dues_199 : decode cX10_dues 199 = .ok (.iload 5, 2) := by decide +kernel
theorem dX10_dues_201 : decode cX10_dues 201 = .ok (.if_icmp .lt 14, 3) := by decide +kernel
theorem dX10_dues_204 : decode cX10_dues 204 = .ok (.aload_n 0, 1) := by decide +kernel
theorem dX10_dues_205 : decode cX10_dues 205 = .ok (.iload_n 2, 1) := by decide +kernel
theorem dX10_dues_206 : decode cX10_dues 206 = .ok (.invokevirtual 229, 3) := by decide +kernel
theorem dX10_dues_209 : decode cX10_dues 209 = .ok (.iload 6, 2) := by decide +kernel
theorem dX10_dues_211 : decode cX10_dues 211 = .ok (.idiv, 1) := by decide +kernel
theorem dX10_dues_212 : decode cX10_dues 212 = .ok (.goto 4, 3) := by decide +kernel
theorem dX10_dues_215 : decode cX10_dues 215 = .ok (.iconst 0, 1) := by decide +kernel
theorem dX10_dues_216 : decode cX10_dues 216 = .ok (.ireturn, 1) := by decide +kernel
theorem dX10_worthOf_0 : decode cX10_worthOf 0 = .ok (.aload_n 0, 1) := by decide +kernel
theorem dX10_worthOf_1 : decode cX10_worthOf 1 = .ok (.getfield 98, 3) := by decide +kernel
theorem dX10_worthOf_4 : decode cX10_worthOf 4 = .ok (.ifCond .ne 7, 3) := by decide +kernel
theorem dX10_worthOf_7 : decode cX10_worthOf 7 = .ok (.aload_n 0, 1) := by decide +kernel
theorem dX10_worthOf_8 : decode cX10_worthOf 8 = .ok (.invokevirtual 289, 3) := by decide +kernel
theorem dX10_worthOf_11 : decode cX10_worthOf 11 = .ok (.lconst 0, 1) := by decide +kernel
theorem dX10_worthOf_12 : decode cX10_worthOf 12 = .ok (.lstore_n 3, 1) := by decide +kernel
theorem dX10_worthOf_13 : decode cX10_worthOf 13 = .ok (.iconst 0, 1) := by decide +kernel
theorem dX10_worthOf_14 : decode cX10_worthOf 14 = .ok (.istore 5, 2) := by decide +kernel
theorem dX10_worthOf_16 : decode cX10_worthOf 16 = .ok (.iload 5, 2) := by decide +kernel
theorem dX10_worthOf_18 : decode cX10_worthOf 18 = .ok (.iconst 3, 1) := by decide +kernel
theorem dX10_worthOf_19 : decode cX10_worthOf 19 = .ok (.if_icmp .ge 41, 3) := by decide +kernel
theorem dX10_worthOf_22 : decode cX10_worthOf 22 = .ok (.lload_n 3, 1) := by decide +kernel
theorem dX10_worthOf_23 : decode cX10_worthOf 23 = .ok (.aload_n 0, 1) := by decide +kernel
theorem dX10_worthOf_24 : decode cX10_worthOf 24 = .ok (.getfield 77, 3) := by decide +kernel
theorem dX10_worthOf_27 : decode cX10_worthOf 27 = .ok (.iconst 3, 1) := by decide +kernel
theorem dX10_worthOf_28 : decode cX10_worthOf 28 = .ok (.aload_n 0, 1) := by decide +kernel
theorem dX10_worthOf_29 : decode cX10_worthOf 29 = .ok (.getfield 35, 3) := by decide +kernel
theorem dX10_worthOf_32 : decode cX10_worthOf 32 = .ok (.iload_n 1, 1) := by decide +kernel
theorem dX10_worthOf_33 : decode cX10_worthOf 33 = .ok (.iaload, 1) := by decide +kernel
theorem dX10_worthOf_34 : decode cX10_worthOf 34 = .ok (.imul, 1) := by decide +kernel
theorem dX10_worthOf_35 : decode cX10_worthOf 35 = .ok (.iload 5, 2) := by decide +kernel
theorem dX10_worthOf_37 : decode cX10_worthOf 37 = .ok (.iadd, 1) := by decide +kernel
theorem dX10_worthOf_38 : decode cX10_worthOf 38 = .ok (.iaload, 1) := by decide +kernel
theorem dX10_worthOf_39 : decode cX10_worthOf 39 = .ok (.aload_n 0, 1) := by decide +kernel
theorem dX10_worthOf_40 : decode cX10_worthOf 40 = .ok (.getfield 23, 3) := by decide +kernel
theorem dX10_worthOf_43 : decode cX10_worthOf 43 = .ok (.iconst 3, 1) := by decide +kernel
theorem dX10_worthOf_44 : decode cX10_worthOf 44 = .ok (.iload_n 2, 1) := by decide +kernel
theorem dX10_worthOf_45 : decode cX10_worthOf 45 = .ok (.imul, 1) := by decide +kernel
theorem dX10_worthOf_46 : decode cX10_worthOf 46 = .ok (.iload 5, 2) := by decide +kernel
theorem dX10_worthOf_48 : decode cX10_worthOf 48 = .ok (.iadd, 1) := by decide +kernel
theorem dX10_worthOf_49 : decode cX10_worthOf 49 = .ok (.iaload, 1) := by decide +kernel
theorem dX10_worthOf_50 : decode cX10_worthOf 50 = .ok (.imul, 1) := by decide +kernel
theorem dX10_worthOf_51 : decode cX10_worthOf 51 = .ok (.i2l, 1) := by decide +kernel
theorem dX10_worthOf_52 : decode cX10_worthOf 52 = .ok (.ladd, 1) := by decide +kernel
theorem dX10_worthOf_53 : decode cX10_worthOf 53 = .ok (.lstore_n 3, 1) := by decide +kernel
theorem dX10_worthOf_54 : decode cX10_worthOf 54 = .ok (.iinc 5 1, 3) := by decide +kernel
theorem dX10_worthOf_57 : decode cX10_worthOf 57 = .ok (.goto (-41), 3) := by decide +kernel
theorem dX10_worthOf_60 : decode cX10_worthOf 60 = .ok (.iconst 1, 1) := by decide +kernel
theorem dX10_worthOf_61 : decode cX10_worthOf 61 = .ok (.istore 5, 2) := by decide +kernel
theorem dX10_worthOf_63 : decode cX10_worthOf 63 = .ok (.iconst 0, 1) := by decide +kernel
theorem dX10_worthOf_64 : decode cX10_worthOf 64 = .ok (.istore 6, 2) := by decide +kernel
theorem dX10_worthOf_66 : decode cX10_worthOf 66 = .ok (.iload 6, 2) := by decide +kernel
theorem dX10_worthOf_68 : decode cX10_worthOf 68 = .ok (.aload_n 0, 1) := by decide +kernel
theorem dX10_worthOf_69 : decode cX10_worthOf 69 = .ok (.getfield 13, 3) := by decide +kernel
theorem dX10_worthOf_72 : decode cX10_worthOf 72 = .ok (.if_icmp .ge 57, 3) := by decide +kernel
theorem dX10_worthOf_75 : decode cX10_worthOf 75 = .ok (.iload 6, 2) := by decide +kernel
theorem dX10_worthOf_77 : decode cX10_worthOf 77 = .ok (.iload_n 1, 1) := by decide +kernel
theorem dX10_worthOf_78 : decode cX10_worthOf 78 = .ok (.if_icmp .eq 45, 3) := by decide +kernel
theorem dX10_worthOf_81 : decode cX10_worthOf 81 = .ok (.aload_n 0, 1) := by decide +kernel
theorem dX10_worthOf_82 : decode cX10_worthOf 82 = .ok (.getfield 41, 3) := by decide +kernel
theorem dX10_worthOf_85 : decode cX10_worthOf 85 = .ok (.iload 6, 2) := by decide +kernel
theorem dX10_worthOf_87 : decode cX10_worthOf 87 = .ok (.iaload, 1) := by decide +kernel
theorem dX10_worthOf_88 : decode cX10_worthOf 88 = .ok (.iload_n 2, 1) := by decide +kernel
theorem dX10_worthOf_89 : decode cX10_worthOf 89 = .ok (.if_icmp .eq 6, 3) := by decide +kernel
theorem dX10_worthOf_92 : decode cX10_worthOf 92 = .ok (.goto 31, 3) := by decide +kernel
theorem dX10_worthOf_95 : decode cX10_worthOf 95 = .ok (.iinc 5 1, 3) := by decide +kernel
theorem dX10_worthOf_98 : decode cX10_worthOf 98 = .ok (.lload_n 3, 1) := by decide +kernel
theorem dX10_worthOf_99 : decode cX10_worthOf 99 = .ok (.aload_n 0, 1) := by decide +kernel
theorem dX10_worthOf_100 : decode cX10_worthOf 100 = .ok (.getfield 80, 3) := by decide +kernel
theorem dX10_worthOf_103 : decode cX10_worthOf 103 = .ok (.iconst 4, 1) := by decide +kernel
theorem dX10_worthOf_104 : decode cX10_worthOf 104 = .ok (.aload_n 0, 1) := by decide +kernel
theorem dX10_worthOf_105 : decode cX10_worthOf 105 = .ok (.getfield 35, 3) := by decide +kernel
theorem dX10_worthOf_108 : decode cX10_worthOf 108 = .ok (.iload_n 1, 1) := by decide +kernel
theorem dX10_worthOf_109 : decode cX10_worthOf 109 = .ok (.iaload, 1) := by decide +kernel
theorem dX10_worthOf_110 : decode cX10_worthOf 110 = .ok (.imul, 1) := by decide +kernel
theorem dX10_worthOf_111 : decode cX10_worthOf 111 = .ok (.aload_n 0, 1) := by decide +kernel
theorem dX10_worthOf_112 : decode cX10_worthOf 112 = .ok (.getfield 35, 3) := by decide +kernel
theorem dX10_worthOf_115 : decode cX10_worthOf 115 = .ok (.iload 6, 2) := by decide +kernel
theorem dX10_worthOf_117 : decode cX10_worthOf 117 = .ok (.iaload, 1) := by decide +kernel
theorem dX10_worthOf_118 : decode cX10_worthOf 118 = .ok (.iadd, 1) := by decide +kernel
theorem dX10_worthOf_119 : decode cX10_worthOf 119 = .ok (.iaload, 1) := by decide +kernel
theorem dX10_worthOf_120 : decode cX10_worthOf 120 = .ok (.i2l, 1) := by decide +kernel
theorem dX10_worthOf_121 : decode cX10_worthOf 121 = .ok (.ladd, 1) := by decide +kernel
theorem dX10_worthOf_122 : decode cX10_worthOf 122 = .ok (.lstore_n 3, 1) := by decide +kernel
theorem dX10_worthOf_123 : decode cX10_worthOf 123 = .ok (.iinc 6 1, 3) := by decide +kernel
theorem dX10_worthOf_126 : decode cX10_worthOf 126 = .ok (.goto (-60), 3) := by decide +kernel
theorem dX10_worthOf_129 : decode cX10_worthOf 129 = .ok (.lload_n 3, 1) := by decide +kernel
theorem dX10_worthOf_130 : decode cX10_worthOf 130 = .ok (.aload_n 0, 1) := by decide +kernel
theorem dX10_worthOf_131 : decode cX10_worthOf 131 = .ok (.iload_n 1, 1) := by decide +kernel
theorem dX10_worthOf_132 : decode cX10_worthOf 132 = .ok (.iload_n 2, 1) := by decide +kernel
theorem dX10_worthOf_133 : decode cX10_worthOf 133 = .ok (.invokevirtual 221, 3) := by decide +kernel
theorem dX10_worthOf_136 : decode cX10_worthOf 136 = .ok (.i2l, 1) := by decide +kernel
theorem dX10_worthOf_137 : decode cX10_worthOf 137 = .ok (.lsub, 1) := by decide +kernel
theorem dX10_worthOf_138 : decode cX10_worthOf 138 = .ok (.aload_n 0, 1) := by decide +kernel
theorem dX10_worthOf_139 : decode cX10_worthOf 139 = .ok (.getfield 26, 3) := by decide +kernel
theorem dX10_worthOf_142 : decode cX10_worthOf 142 = .ok (.iload_n 2, 1) := by decide +kernel
theorem dX10_worthOf_143 : decode cX10_worthOf 143 = .ok (.iaload, 1) := by decide +kernel
theorem dX10_worthOf_144 : decode cX10_worthOf 144 = .ok (.i2l, 1) := by decide +kernel
theorem dX10_worthOf_145 : decode cX10_worthOf 145 = .ok (.lsub, 1) := by decide +kernel
theorem dX10_worthOf_146 : decode cX10_worthOf 146 = .ok (.aload_n 0, 1) := by decide +kernel
theorem dX10_worthOf_147 : decode cX10_worthOf 147 = .ok (.getfield 95, 3) := by decide +kernel
theorem dX10_worthOf_150 : decode cX10_worthOf 150 = .ok (.bipush 36, 2) := by decide +kernel
theorem dX10_worthOf_152 : decode cX10_worthOf 152 = .ok (.iload_n 1, 1) := by decide +kernel
theorem dX10_worthOf_153 : decode cX10_worthOf 153 = .ok (.imul, 1) := by decide +kernel
theorem dX10_worthOf_154 : decode cX10_worthOf 154 = .ok (.bipush 9, 2) := by decide +kernel
theorem dX10_worthOf_156 : decode cX10_worthOf 156 = .ok (.iload_n 2, 1) := by decide +kernel
theorem dX10_worthOf_157 : decode cX10_worthOf 157 = .ok (.imul, 1) := by decide +kernel
theorem dX10_worthOf_158 : decode cX10_worthOf 158 = .ok (.iadd, 1) := by decide +kernel
theorem dX10_worthOf_159 : decode cX10_worthOf 159 = .ok (.iload 5, 2) := by decide +kernel
theorem dX10_worthOf_161 : decode cX10_worthOf 161 = .ok (.iadd, 1) := by decide +kernel
theorem dX10_worthOf_162 : decode cX10_worthOf 162 = .ok (.iaload, 1) := by decide +kernel
theorem dX10_worthOf_163 : decode cX10_worthOf 163 = .ok (.i2l, 1) := by decide +kernel
theorem dX10_worthOf_164 : decode cX10_worthOf 164 = .ok (.lsub, 1) := by decide +kernel
theorem dX10_worthOf_165 : decode cX10_worthOf 165 = .ok (.aload_n 0, 1) := by decide +kernel
theorem dX10_worthOf_166 : decode cX10_worthOf 166 = .ok (.getfield 86, 3) := by decide +kernel
theorem dX10_worthOf_169 : decode cX10_worthOf 169 = .ok (.aload_n 0, 1) := by decide +kernel
theorem dX10_worthOf_170 : decode cX10_worthOf 170 = .ok (.aload_n 0, 1) := by decide +kernel
theorem dX10_worthOf_171 : decode cX10_worthOf 171 = .ok (.getfield 44, 3) := by decide +kernel
theorem dX10_worthOf_174 : decode cX10_worthOf 174 = .ok (.iload_n 1, 1) := by decide +kernel
theorem dX10_worthOf_175 : decode cX10_worthOf 175 = .ok (.iaload, 1) := by decide +kernel
theorem dX10_worthOf_176 : decode cX10_worthOf 176 = .ok (.iload_n 2, 1) := by decide +kernel
theorem dX10_worthOf_177 : decode cX10_worthOf 177 = .ok (.isub, 1) := by decide +kernel
theorem dX10_worthOf_178 : decode cX10_worthOf 178 = .ok (.invokevirtual 292, 3) := by decide +kernel
theorem dX10_worthOf_181 : decode cX10_worthOf 181 = .ok (.imul, 1) := by decide +kernel
theorem dX10_worthOf_182 : decode cX10_worthOf 182 = .ok (.i2l, 1) := by decide +kernel
theorem dX10_worthOf_183 : decode cX10_worthOf 183 = .ok (.lsub, 1) := by decide +kernel
theorem dX10_worthOf_184 : decode cX10_worthOf 184 = .ok (.lreturn, 1) := by decide +kernel
theorem dX10_worth_0 : decode cX10_worth 0 = .ok (.aload_n 0, 1) := by decide +kernel
theorem dX10_worth_1 : decode cX10_worth 1 = .ok (.iload_n 1, 1) := by decide +kernel
theorem dX10_worth_2 : decode cX10_worth 2 = .ok (.invokevirtual 216, 3) := by decide +kernel
theorem dX10_worth_5 : decode cX10_worth 5 = .ok (.ifCond .eq 20, 3) := by decide +kernel
theorem dX10_worth_8 : decode cX10_worth 8 = .ok (.aload_n 0, 1) := by decide +kernel
theorem dX10_worth_9 : decode cX10_worth 9 = .ok (.iload_n 2, 1) := by decide +kernel
theorem dX10_worth_10 : decode cX10_worth 10 = .ok (.invokevirtual 205, 3) := by decide +kernel
theorem dX10_worth_13 : decode cX10_worth 13 = .ok (.ifCond .eq 12, 3) := by decide +kernel
theorem dX10_worth_16 : decode cX10_worth 16 = .ok (.aload_n 0, 1) := by decide +kernel
theorem dX10_worth_17 : decode cX10_worth 17 = .ok (.iload_n 1, 1) := by decide +kernel
theorem dX10_worth_18 : decode cX10_worth 18 = .ok (.iload_n 2, 1) := by decide +kernel
theorem dX10_worth_19 : decode cX10_worth 19 = .ok (.invokevirtual 225, 3) := by decide +kernel
theorem dX10_worth_22 : decode cX10_worth 22 = .ok (.goto 6, 3) := by decide +kernel
theorem dX10_worth_25 : decode cX10_worth 25 = .ok (.ldc2_w 219, 3) := by decide +kernel
theorem dX10_worth_28 : decode cX10_worth 28 = .ok (.lreturn, 1) := by decide +kernel
theorem dX10_wants_0 : decode cX10_wants 0 = .ok (.aload_n 0, 1) := by decide +kernel
theorem dX10_wants_1 : decode cX10_wants 1 = .ok (.getfield 23, 3) := by decide +kernel
theorem dX10_wants_4 : decode cX10_wants 4 = .ok (.iconst 3, 1) := by decide +kernel
theorem dX10_wants_5 : decode cX10_wants 5 = .ok (.iload_n 2, 1) := by decide +kernel
theorem dX10_wants_6 : decode cX10_wants 6 = .ok (.imul, 1) := by decide +kernel
theorem dX10_wants_7 : decode cX10_wants 7 = .ok (.iload_n 3, 1) := by decide +kernel
theorem dX10_wants_8 : decode cX10_wants 8 = .ok (.iadd, 1) := by decide +kernel
theorem dX10_wants_9 : decode cX10_wants 9 = .ok (.iaload, 1) := by decide +kernel
theorem dX10_wants_10 : decode cX10_wants 10 = .ok (.istore 4, 2) := by decide +kernel
theorem dX10_wants_12 : decode cX10_wants 12 = .ok (.iconst 0, 1) := by decide +kernel
theorem dX10_wants_13 : decode cX10_wants 13 = .ok (.istore 5, 2) := by decide +kernel
theorem dX10_wants_15 : decode cX10_wants 15 = .ok (.lconst 0, 1) := by decide +kernel
theorem dX10_wants_16 : decode cX10_wants 16 = .ok (.lstore 6, 2) := by decide +kernel
theorem dX10_wants_18 : decode cX10_wants 18 = .ok (.iconst 0, 1) := by decide +kernel
theorem dX10_wants_19 : decode cX10_wants 19 = .ok (.istore 8, 2) := by decide +kernel
theorem dX10_wants_21 : decode cX10_wants 21 = .ok (.iload 8, 2) := by decide +kernel
theorem dX10_wants_23 : decode cX10_wants 23 = .ok (.bipush 6, 2) := by decide +kernel
theorem dX10_wants_25 : decode cX10_wants 25 = .ok (.if_icmp .ge 53, 3) := by decide +kernel
theorem dX10_wants_28 : decode cX10_wants 28 = .ok (.aload_n 0, 1) := by decide +kernel
theorem dX10_wants_29 : decode cX10_wants 29 = .ok (.getfield 23, 3) := by decide +kernel
theorem dX10_wants_32 : decode cX10_wants 32 = .ok (.iconst 3, 1) := by decide +kernel
theorem dX10_wants_33 : decode cX10_wants 33 = .ok (.iload_n 2, 1) := by decide +kernel
theorem dX10_wants_34 : decode cX10_wants 34 = .ok (.imul, 1) := by decide +kernel
theorem dX10_wants_35 : decode cX10_wants 35 = .ok (.iload_n 3, 1) := by decide +kernel
theorem dX10_wants_36 : decode cX10_wants 36 = .ok (.iadd, 1) := by decide +kernel
theorem dX10_wants_37 : decode cX10_wants 37 = .ok (.iload 8, 2) := by decide +kernel
theorem dX10_wants_39 : decode cX10_wants 39 = .ok (.iastore, 1) := by decide +kernel
theorem dX10_wants_40 : decode cX10_wants 40 = .ok (.aload_n 0, 1) := by decide +kernel
theorem dX10_wants_41 : decode cX10_wants 41 = .ok (.iload_n 1, 1) := by decide +kernel
theorem dX10_wants_42 : decode cX10_wants 42 = .ok (.iload_n 2, 1) := by decide +kernel
theorem dX10_wants_43 : decode cX10_wants 43 = .ok (.invokevirtual 225, 3) := by decide +kernel
theorem dX10_wants_46 : decode cX10_wants 46 = .ok (.lstore 9, 2) := by decide +kernel
theorem dX10_wants_48 : decode cX10_wants 48 = .ok (.iload 8, 2) := by decide +kernel
theorem dX10_wants_50 : decode cX10_wants 50 = .ok (.ifCond .le 14, 3) := by decide +kernel
theorem dX10_wants_53 : decode cX10_wants 53 = .ok (.lload 9, 2) := by decide +kernel
theorem dX10_wants_55 : decode cX10_wants 55 = .ok (.lload 6, 2) := by decide +kernel
theorem dX10_wants_57 : decode cX10_wants 57 = .ok (.lcmp, 1) := by decide +kernel
theorem dX10_wants_58 : decode cX10_wants 58 = .ok (.ifCond .gt 6, 3) := by decide +kernel
theorem dX10_wants_61 : decode cX10_wants 61 = .ok (.goto 11, 3) := by decide +kernel
theorem dX10_wants_64 : decode cX10_wants 64 = .ok (.lload 9, 2) := by decide +kernel
theorem dX10_wants_66 : decode cX10_wants 66 = .ok (.lstore 6, 2) := by decide +kernel
theorem dX10_wants_68 : decode cX10_wants 68 = .ok (.iload 8, 2) := by decide +kernel
theorem dX10_wants_70 : decode cX10_wants 70 = .ok (.istore 5, 2) := by decide +kernel
theorem dX10_wants_72 : decode cX10_wants 72 = .ok (.iinc 8 1, 3) := by decide +kernel
theorem dX10_wants_75 : decode cX10_wants 75 = .ok (.goto (-54), 3) := by decide +kernel
theorem dX10_wants_78 : decode cX10_wants 78 = .ok (.aload_n 0, 1) := by decide +kernel
theorem dX10_wants_79 : decode cX10_wants 79 = .ok (.getfield 23, 3) := by decide +kernel
theorem dX10_wants_82 : decode cX10_wants 82 = .ok (.iconst 3, 1) := by decide +kernel
theorem dX10_wants_83 : decode cX10_wants 83 = .ok (.iload_n 2, 1) := by decide +kernel
theorem dX10_wants_84 : decode cX10_wants 84 = .ok (.imul, 1) := by decide +kernel
theorem dX10_wants_85 : decode cX10_wants 85 = .ok (.iload_n 3, 1) := by decide +kernel
theorem dX10_wants_86 : decode cX10_wants 86 = .ok (.iadd, 1) := by decide +kernel
theorem dX10_wants_87 : decode cX10_wants 87 = .ok (.iload 4, 2) := by decide +kernel
theorem dX10_wants_89 : decode cX10_wants 89 = .ok (.iastore, 1) := by decide +kernel
theorem dX10_wants_90 : decode cX10_wants 90 = .ok (.iload 5, 2) := by decide +kernel
theorem dX10_wants_92 : decode cX10_wants 92 = .ok (.ireturn, 1) := by decide +kernel
theorem dX10_choiceOf_0 : decode cX10_choiceOf 0 = .ok (.iconst 0, 1) := by decide +kernel
theorem dX10_choiceOf_1 : decode cX10_choiceOf 1 = .ok (.istore_n 3, 1) := by decide +kernel
theorem dX10_choiceOf_2 : decode cX10_choiceOf 2 = .ok (.iconst 0, 1) := by decide +kernel
theorem dX10_choiceOf_3 : decode cX10_choiceOf 3 = .ok (.istore 4, 2) := by decide +kernel
theorem dX10_choiceOf_5 : decode cX10_choiceOf 5 = .ok (.iload 4, 2) := by decide +kernel
theorem dX10_choiceOf_7 : decode cX10_choiceOf 7 = .ok (.aload_n 0, 1) := by decide +kernel
theorem dX10_choiceOf_8 : decode cX10_choiceOf 8 = .ok (.getfield 13, 3) := by decide +kernel
theorem dX10_choiceOf_11 : decode cX10_choiceOf 11 = .ok (.if_icmp .ge 50, 3) := by decide +kernel
theorem dX10_choiceOf_14 : decode cX10_choiceOf 14 = .ok (.iload_n 3, 1) := by decide +kernel
theorem dX10_choiceOf_15 : decode cX10_choiceOf 15 = .ok (.ifCond .ne 34, 3) := by decide +kernel
theorem dX10_choiceOf_18 : decode cX10_choiceOf 18 = .ok (.aload_n 0, 1) := by decide +kernel
theorem dX10_choiceOf_19 : decode cX10_choiceOf 19 = .ok (.getfield 92, 3) := by decide +kernel
theorem dX10_choiceOf_22 : decode cX10_choiceOf 22 = .ok (.bipush 111, 2) := by decide +kernel
theorem dX10_choiceOf_24 : decode cX10_choiceOf 24 = .ok (.if_icmp .ne 29, 3) := by decide +kernel
theorem dX10_choiceOf_27 : decode cX10_choiceOf 27 = .ok (.aload_n 0, 1) := by decide +kernel
theorem dX10_choiceOf_28 : decode cX10_choiceOf 28 = .ok (.getfield 41, 3) := by decide +kernel
theorem dX10_choiceOf_31 : decode cX10_choiceOf 31 = .ok (.iload 4, 2) := by decide +kernel
theorem dX10_choiceOf_33 : decode cX10_choiceOf 33 = .ok (.iaload, 1) := by decide +kernel
theorem dX10_choiceOf_34 : decode cX10_choiceOf 34 = .ok (.iload_n 1, 1) := by decide +kernel
theorem dX10_choiceOf_35 : decode cX10_choiceOf 35 = .ok (.if_icmp .ne 18, 3) := by decide +kernel
theorem dX10_choiceOf_38 : decode cX10_choiceOf 38 = .ok (.aload_n 0, 1) := by decide +kernel
theorem dX10_choiceOf_39 : decode cX10_choiceOf 39 = .ok (.getfield 44, 3) := by decide +kernel
theorem dX10_choiceOf_42 : decode cX10_choiceOf 42 = .ok (.iload 4, 2) := by decide +kernel
theorem dX10_choiceOf_44 : decode cX10_choiceOf 44 = .ok (.iaload, 1) := by decide +kernel
theorem dX10_choiceOf_45 : decode cX10_choiceOf 45 = .ok (.iload_n 1, 1) := by decide +kernel
theorem dX10_choiceOf_46 : decode cX10_choiceOf 46 = .ok (.if_icmp .ne 7, 3) := by decide +kernel
theorem dX10_choiceOf_49 : decode cX10_choiceOf 49 = .ok (.iconst 1, 1) := by decide +kernel
theorem dX10_choiceOf_50 : decode cX10_choiceOf 50 = .ok (.goto 4, 3) := by decide +kernel
theorem dX10_choiceOf_53 : decode cX10_choiceOf 53 = .ok (.iconst 0, 1) := by decide +kernel
theorem dX10_choiceOf_54 : decode cX10_choiceOf 54 = .ok (.istore_n 3, 1) := by decide +kernel
theorem dX10_choiceOf_55 : decode cX10_choiceOf 55 = .ok (.iinc 4 1, 3) := by decide +kernel
theorem dX10_choiceOf_58 : decode cX10_choiceOf 58 = .ok (.goto (-53), 3) := by decide +kernel
theorem dX10_choiceOf_61 : decode cX10_choiceOf 61 = .ok (.iconst 0, 1) := by decide +kernel
theorem dX10_choiceOf_62 : decode cX10_choiceOf 62 = .ok (.istore 4, 2) := by decide +kernel
theorem dX10_choiceOf_64 : decode cX10_choiceOf 64 = .ok (.iload 4, 2) := by decide +kernel
theorem dX10_choiceOf_66 : decode cX10_choiceOf 66 = .ok (.bipush 6, 2) := by decide +kernel
theorem dX10_choiceOf_68 : decode cX10_choiceOf 68 = .ok (.if_icmp .ge 17, 3) := by decide +kernel
theorem dX10_choiceOf_71 : decode cX10_choiceOf 71 = .ok (.aload_n 0, 1) := by decide +kernel
theorem dX10_choiceOf_72 : decode cX10_choiceOf 72 = .ok (.getfield 136, 3) := by decide +kernel
theorem dX10_choiceOf_75 : decode cX10_choiceOf 75 = .ok (.iload 4, 2) := by decide +kernel
theorem dX10_choiceOf_77 : decode cX10_choiceOf 77 = .ok (.iconst 0, 1) := by decide +kernel
theorem dX10_choiceOf_78 : decode cX10_choiceOf 78 = .ok (.iastore, 1) := by decide +kernel
theorem dX10_choiceOf_79 : decode cX10_choiceOf 79 = .ok (.iinc 4 1, 3) := by decide +kernel
theorem dX10_choiceOf_82 : decode cX10_choiceOf 82 = .ok (.goto (-18), 3) := by decide +kernel
theorem dX10_choiceOf_85 : decode cX10_choiceOf 85 = .ok (.iconst 0, 1) := by decide +kernel
theorem dX10_choiceOf_86 : decode cX10_choiceOf 86 = .ok (.istore 4, 2) := by decide +kernel
theorem dX10_choiceOf_88 : decode cX10_choiceOf 88 = .ok (.iconst 0, 1) := by decide +kernel
theorem dX10_choiceOf_89 : decode cX10_choiceOf 89 = .ok (.istore 5, 2) := by decide +kernel
theorem dX10_choiceOf_91 : decode cX10_choiceOf 91 = .ok (.iload 5, 2) := by decide +kernel
theorem dX10_choiceOf_93 : decode cX10_choiceOf 93 = .ok (.aload_n 0, 1) := by decide +kernel
theorem dX10_choiceOf_94 : decode cX10_choiceOf 94 = .ok (.getfield 13, 3) := by decide +kernel
theorem dX10_choiceOf_97 : decode cX10_choiceOf 97 = .ok (.if_icmp .ge 58, 3) := by decide +kernel
theorem dX10_choiceOf_100 : decode cX10_choiceOf 100 = .ok (.aload_n 0, 1) := by decide +kernel
theorem dX10_choiceOf_101 : decode cX10_choiceOf 101 = .ok (.getfield 41, 3) := by decide +kernel
theorem dX10_choiceOf_104 : decode cX10_choiceOf 104 = .ok (.iload 5, 2) := by decide +kernel
theorem dX10_choiceOf_106 : decode cX10_choiceOf 106 = .ok (.iaload, 1) := by decide +kernel
theorem dX10_choiceOf_107 : decode cX10_choiceOf 107 = .ok (.iload_n 1, 1) := by decide +kernel
theorem dX10_choiceOf_108 : decode cX10_choiceOf 108 = .ok (.if_icmp .ne 41, 3) := by decide +kernel
theorem dX10_choiceOf_111 : decode cX10_choiceOf 111 = .ok (.iload_n 3, 1) := by decide +kernel
theorem dX10_choiceOf_112 : decode cX10_choiceOf 112 = .ok (.ifCond .eq 17, 3) := by decide +kernel
theorem dX10_choiceOf_115 : decode cX10_choiceOf 115 = .ok (.aload_n 0, 1) := by decide +kernel
theorem dX10_choiceOf_116 : decode cX10_choiceOf 116 = .ok (.getfield 44, 3) := by decide +kernel
theorem dX10_choiceOf_119 : decode cX10_choiceOf 119 = .ok (.iload 5, 2) := by decide +kernel
theorem dX10_choiceOf_121 : decode cX10_choiceOf 121 = .ok (.iaload, 1) := by decide +kernel
theorem dX10_choiceOf_122 : decode cX10_choiceOf 122 = .ok (.iload_n 1, 1) := by decide +kernel
theorem dX10_choiceOf_123 : decode cX10_choiceOf 123 = .ok (.if_icmp .eq 6, 3) := by decide +kernel
theorem dX10_choiceOf_126 : decode cX10_choiceOf 126 = .ok (.goto 23, 3) := by decide +kernel
theorem dX10_choiceOf_129 : decode cX10_choiceOf 129 = .ok (.aload_n 0, 1) := by decide +kernel
theorem dX10_choiceOf_130 : decode cX10_choiceOf 130 = .ok (.getfield 136, 3) := by decide +kernel
theorem dX10_choiceOf_133 : decode cX10_choiceOf 133 = .ok (.aload_n 0, 1) := by decide +kernel
theorem dX10_choiceOf_134 : decode cX10_choiceOf 134 = .ok (.iload 5, 2) := by decide +kernel
theorem dX10_choiceOf_136 : decode cX10_choiceOf 136 = .ok (.iload_n 1, 1) := by decide +kernel
theorem dX10_choiceOf_137 : decode cX10_choiceOf 137 = .ok (.iload_n 2, 1) := by decide +kernel
theorem dX10_choiceOf_138 : decode cX10_choiceOf 138 = .ok (.invokevirtual 295, 3) := by decide +kernel
theorem dX10_choiceOf_141 : decode cX10_choiceOf 141 = .ok (.dup2, 1) := by decide +kernel
theorem dX10_choiceOf_142 : decode cX10_choiceOf 142 = .ok (.iaload, 1) := by decide +kernel
theorem dX10_choiceOf_143 : decode cX10_choiceOf 143 = .ok (.iconst 1, 1) := by decide +kernel
theorem dX10_choiceOf_144 : decode cX10_choiceOf 144 = .ok (.iadd, 1) := by decide +kernel
theorem dX10_choiceOf_145 : decode cX10_choiceOf 145 = .ok (.iastore, 1) := by decide +kernel
theorem dX10_choiceOf_146 : decode cX10_choiceOf 146 = .ok (.iinc 4 1, 3) := by decide +kernel
theorem dX10_choiceOf_149 : decode cX10_choiceOf 149 = .ok (.iinc 5 1, 3) := by decide +kernel
theorem dX10_choiceOf_152 : decode cX10_choiceOf 152 = .ok (.goto (-61), 3) := by decide +kernel
theorem dX10_choiceOf_155 : decode cX10_choiceOf 155 = .ok (.iconst 0, 1) := by decide +kernel
theorem dX10_choiceOf_156 : decode cX10_choiceOf 156 = .ok (.istore 5, 2) := by decide +kernel
theorem dX10_choiceOf_158 : decode cX10_choiceOf 158 = .ok (.aload_n 0, 1) := by decide +kernel
theorem dX10_choiceOf_159 : decode cX10_choiceOf 159 = .ok (.getfield 92, 3) := by decide +kernel
theorem dX10_choiceOf_162 : decode cX10_choiceOf 162 = .ok (.bipush 100, 2) := by decide +kernel
theorem dX10_choiceOf_164 : decode cX10_choiceOf 164 = .ok (.if_icmp .ne 58, 3) := by decide +kernel
theorem dX10_choiceOf_167 : decode cX10_choiceOf 167 = .ok (.iload 4, 2) := by decide +kernel
theorem dX10_choiceOf_169 : decode cX10_choiceOf 169 = .ok (.ifCond .ne 7, 3) := by decide +kernel
theorem dX10_choiceOf_172 : decode cX10_choiceOf 172 = .ok (.iconst 0, 1) := by decide +kernel
theorem dX10_choiceOf_173 : decode cX10_choiceOf 173 = .ok (.goto 9, 3) := by decide +kernel
theorem dX10_choiceOf_176 : decode cX10_choiceOf 176 = .ok (.iload 4, 2) := by decide +kernel
theorem dX10_choiceOf_178 : decode cX10_choiceOf 178 = .ok (.iconst 1, 1) := by decide +kernel
theorem dX10_choiceOf_179 : decode cX10_choiceOf 179 = .ok (.isub, 1) := by decide +kernel
theorem dX10_choiceOf_180 : decode cX10_choiceOf 180 = .ok (.iconst 2, 1) := by decide +kernel
theorem dX10_choiceOf_181 : decode cX10_choiceOf 181 = .ok (.idiv, 1) := by decide +kernel
theorem dX10_choiceOf_182 : decode cX10_choiceOf 182 = .ok (.istore 6, 2) := by decide +kernel
theorem dX10_choiceOf_184 : decode cX10_choiceOf 184 = .ok (.iload 4, 2) := by decide +kernel
theorem dX10_choiceOf_186 : decode cX10_choiceOf 186 = .ok (.ifCond .le 33, 3) := by decide +kernel
theorem dX10_choiceOf_189 : decode cX10_choiceOf 189 = .ok (.iload 6, 2) := by decide +kernel
theorem dX10_choiceOf_191 : decode cX10_choiceOf 191 = .ok (.aload_n 0, 1) := by decide +kernel
theorem dX10_choiceOf_192 : decode cX10_choiceOf 192 = .ok (.getfield 136, 3) := by decide +kernel
theorem dX10_choiceOf_195 : decode cX10_choiceOf 195 = .ok (.iload 5, 2) := by decide +kernel
theorem dX10_choiceOf_197 : decode cX10_choiceOf 197 = .ok (.iaload, 1) := by decide +kernel
theorem dX10_choiceOf_198 : decode cX10_choiceOf 198 = .ok (.if_icmp .lt 21, 3) := by decide +kernel
theorem dX10_choiceOf_201 : decode cX10_choiceOf 201 = .ok (.iload 6, 2) := by decide +kernel
theorem dX10_choiceOf_203 : decode cX10_choiceOf 203 = .ok (.aload_n 0, 1) := by decide +kernel
theorem dX10_choiceOf_204 : decode cX10_choiceOf 204 = .ok (.getfield 136, 3) := by decide +kernel
theorem dX10_choiceOf_207 : decode cX10_choiceOf 207 = .ok (.iload 5, 2) := by decide +kernel
theorem dX10_choiceOf_209 : decode cX10_choiceOf 209 = .ok (.iaload, 1) := by decide +kernel
theorem dX10_choiceOf_210 : decode cX10_choiceOf 210 = .ok (.isub, 1) := by decide +kernel
theorem dX10_choiceOf_211 : decode cX10_choiceOf 211 = .ok (.istore 6, 2) := by decide +kernel
theorem dX10_choiceOf_213 : decode cX10_choiceOf 213 = .ok (.iinc 5 1, 3) := by decide +kernel
theorem dX10_choiceOf_216 : decode cX10_choiceOf 216 = .ok (.goto (-32), 3) := by decide +kernel
theorem dX10_choiceOf_219 : decode cX10_choiceOf 219 = .ok (.iload 5, 2) := by decide +kernel
theorem dX10_choiceOf_221 : decode cX10_choiceOf 221 = .ok (.ireturn, 1) := by decide +kernel
theorem dX10_choiceOf_222 : decode cX10_choiceOf 222 = .ok (.iconst 1, 1) := by decide +kernel
theorem dX10_choiceOf_223 : decode cX10_choiceOf 223 = .ok (.istore 6, 2) := by decide +kernel
theorem dX10_choiceOf_225 : decode cX10_choiceOf 225 = .ok (.iload 6, 2) := by decide +kernel
theorem dX10_choiceOf_227 : decode cX10_choiceOf 227 = .ok (.bipush 6, 2) := by decide +kernel
theorem dX10_choiceOf_229 : decode cX10_choiceOf 229 = .ok (.if_icmp .ge 30, 3) := by decide +kernel
theorem dX10_choiceOf_232 : decode cX10_choiceOf 232 = .ok (.aload_n 0, 1) := by decide +kernel
theorem dX10_choiceOf_233 : decode cX10_choiceOf 233 = .ok (.getfield 136, 3) := by decide +kernel
theorem dX10_choiceOf_236 : decode cX10_choiceOf 236 = .ok (.iload 6, 2) := by decide +kernel
theorem dX10_choiceOf_238 : decode cX10_choiceOf 238 = .ok (.iaload, 1) := by decide +kernel
theorem dX10_choiceOf_239 : decode cX10_choiceOf 239 = .ok (.aload_n 0, 1) := by decide +kernel
theorem dX10_choiceOf_240 : decode cX10_choiceOf 240 = .ok (.getfield 136, 3) := by decide +kernel
theorem dX10_choiceOf_243 : decode cX10_choiceOf 243 = .ok (.iload 5, 2) := by decide +kernel
theorem dX10_choiceOf_245 : decode cX10_choiceOf 245 = .ok (.iaload, 1) := by decide +kernel
theorem dX10_choiceOf_246 : decode cX10_choiceOf 246 = .ok (.if_icmp .le 7, 3) := by decide +kernel
theorem dX10_choiceOf_249 : decode cX10_choiceOf 249 = .ok (.iload 6, 2) := by decide +kernel
theorem dX10_choiceOf_251 : decode cX10_choiceOf 251 = .ok (.istore 5, 2) := by decide +kernel
theorem dX10_choiceOf_253 : decode cX10_choiceOf 253 = .ok (.iinc 6 1, 3) := by decide +kernel
theorem dX10_choiceOf_256 : decode cX10_choiceOf 256 = .ok (.goto (-31), 3) := by decide +kernel
theorem dX10_choiceOf_259 : decode cX10_choiceOf 259 = .ok (.iload 5, 2) := by decide +kernel
theorem dX10_choiceOf_261 : decode cX10_choiceOf 261 = .ok (.ireturn, 1) := by decide +kernel
theorem dX10_choice_0 : decode cX10_choice 0 = .ok (.aload_n 0, 1) := by decide +kernel
theorem dX10_choice_1 : decode cX10_choice 1 = .ok (.iload_n 1, 1) := by decide +kernel
theorem dX10_choice_2 : decode cX10_choice 2 = .ok (.invokevirtual 205, 3) := by decide +kernel
theorem dX10_choice_5 : decode cX10_choice 5 = .ok (.ifCond .eq 22, 3) := by decide +kernel
theorem dX10_choice_8 : decode cX10_choice 8 = .ok (.aload_n 0, 1) := by decide +kernel
theorem dX10_choice_9 : decode cX10_choice 9 = .ok (.iload_n 2, 1) := by decide +kernel
theorem dX10_choice_10 : decode cX10_choice 10 = .ok (.iconst 0, 1) := by decide +kernel
theorem dX10_choice_11 : decode cX10_choice 11 = .ok (.iconst 2, 1) := by decide +kernel
theorem dX10_choice_12 : decode cX10_choice 12 = .ok (.invokevirtual 197, 3) := by decide +kernel
theorem dX10_choice_15 : decode cX10_choice 15 = .ok (.ifCond .eq 12, 3) := by decide +kernel
theorem dX10_choice_18 : decode cX10_choice 18 = .ok (.aload_n 0, 1) := by decide +kernel
theorem dX10_choice_19 : decode cX10_choice 19 = .ok (.iload_n 1, 1) := by decide +kernel
theorem dX10_choice_20 : decode cX10_choice 20 = .ok (.iload_n 2, 1) := by decide +kernel
theorem dX10_choice_21 : decode cX10_choice 21 = .ok (.invokevirtual 299, 3) := by decide +kernel
theorem dX10_choice_24 : decode cX10_choice 24 = .ok (.goto 4, 3) := by decide +kernel
theorem dX10_choice_27 : decode cX10_choice 27 = .ok (.iconst (-1), 1) := by decide +kernel
theorem dX10_choice_28 : decode cX10_choice 28 = .ok (.ireturn, 1) := by decide +kernel
theorem dX10_chooses_0 : decode cX10_chooses 0 = .ok (.iconst 0, 1) := by decide +kernel
theorem dX10_chooses_1 : decode cX10_chooses 1 = .ok (.istore_n 2, 1) := by decide +kernel
theorem dX10_chooses_2 : decode cX10_chooses 2 = .ok (.iconst 0, 1) := by decide +kernel
theorem dX10_chooses_3 : decode cX10_chooses 3 = .ok (.istore_n 3, 1) := by decide +kernel
theorem dX10_chooses_4 : decode cX10_chooses 4 = .ok (.iload_n 3, 1) := by decide +kernel
theorem dX10_chooses_5 : decode cX10_chooses 5 = .ok (.iconst 3, 1) := by decide +kernel
theorem dX10_chooses_6 : decode cX10_chooses 6 = .ok (.if_icmp .ge 52, 3) := by decide +kernel
theorem dX10_chooses_9 : decode cX10_chooses 9 = .ok (.aload_n 0, 1) := by decide +kernel
theorem dX10_chooses_10 : decode cX10_chooses 10 = .ok (.iload_n 1, 1) := by decide +kernel
theorem dX10_chooses_11 : decode cX10_chooses 11 = .ok (.iload_n 3, 1) := by decide +kernel
theorem dX10_chooses_12 : decode cX10_chooses 12 = .ok (.invokevirtual 299, 3) := by decide +kernel
theorem dX10_chooses_15 : decode cX10_chooses 15 = .ok (.istore 4, 2) := by decide +kernel
theorem dX10_chooses_17 : decode cX10_chooses 17 = .ok (.iload_n 2, 1) := by decide +kernel
theorem dX10_chooses_18 : decode cX10_chooses 18 = .ok (.iload 4, 2) := by decide +kernel
theorem dX10_chooses_20 : decode cX10_chooses 20 = .ok (.aload_n 0, 1) := by decide +kernel
theorem dX10_chooses_21 : decode cX10_chooses 21 = .ok (.getfield 23, 3) := by decide +kernel
theorem dX10_chooses_24 : decode cX10_chooses 24 = .ok (.iconst 3, 1) := by decide +kernel
theorem dX10_chooses_25 : decode cX10_chooses 25 = .ok (.iload_n 1, 1) := by decide +kernel
theorem dX10_chooses_26 : decode cX10_chooses 26 = .ok (.imul, 1) := by decide +kernel
theorem dX10_chooses_27 : decode cX10_chooses 27 = .ok (.iload_n 3, 1) := by decide +kernel
theorem dX10_chooses_28 : decode cX10_chooses 28 = .ok (.iadd, 1) := by decide +kernel
theorem dX10_chooses_29 : decode cX10_chooses 29 = .ok (.iaload, 1) := by decide +kernel
theorem dX10_chooses_30 : decode cX10_chooses 30 = .ok (.if_icmp .ne 7, 3) := by decide +kernel
theorem dX10_chooses_33 : decode cX10_chooses 33 = .ok (.iconst 0, 1) := by decide +kernel
theorem dX10_chooses_34 : decode cX10_chooses 34 = .ok (.goto 4, 3) := by decide +kernel
theorem dX10_chooses_37 : decode cX10_chooses 37 = .ok (.iconst 1, 1) := by decide +kernel
theorem dX10_chooses_38 : decode cX10_chooses 38 = .ok (.iadd, 1) := by decide +kernel
theorem dX10_chooses_39 : decode cX10_chooses 39 = .ok (.istore_n 2, 1) := by decide +kernel
theorem dX10_chooses_40 : decode cX10_chooses 40 = .ok (.aload_n 0, 1) := by decide +kernel
theorem dX10_chooses_41 : decode cX10_chooses 41 = .ok (.getfield 23, 3) := by decide +kernel
theorem dX10_chooses_44 : decode cX10_chooses 44 = .ok (.iconst 3, 1) := by decide +kernel
theorem dX10_chooses_45 : decode cX10_chooses 45 = .ok (.iload_n 1, 1) := by decide +kernel
theorem dX10_chooses_46 : decode cX10_chooses 46 = .ok (.imul, 1) := by decide +kernel
theorem dX10_chooses_47 : decode cX10_chooses 47 = .ok (.iload_n 3, 1) := by decide +kernel
theorem dX10_chooses_48 : decode cX10_chooses 48 = .ok (.iadd, 1) := by decide +kernel
theorem dX10_chooses_49 : decode cX10_chooses 49 = .ok (.iload 4, 2) := by decide +kernel
theorem dX10_chooses_51 : decode cX10_chooses 51 = .ok (.iastore, 1) := by decide +kernel
theorem dX10_chooses_52 : decode cX10_chooses 52 = .ok (.iinc 3 1, 3) := by decide +kernel
theorem dX10_chooses_55 : decode cX10_chooses 55 = .ok (.goto (-51), 3) := by decide +kernel
theorem dX10_chooses_58 : decode cX10_chooses 58 = .ok (.iload_n 2, 1) := by decide +kernel
theorem dX10_chooses_59 : decode cX10_chooses 59 = .ok (.ireturn, 1) := by decide +kernel
theorem dX10_choose_0 : decode cX10_choose 0 = .ok (.aload_n 0, 1) := by decide +kernel
theorem dX10_choose_1 : decode cX10_choose 1 = .ok (.iload_n 1, 1) := by decide +kernel
theorem dX10_choose_2 : decode cX10_choose 2 = .ok (.invokevirtual 205, 3) := by decide +kernel
theorem dX10_choose_5 : decode cX10_choose 5 = .ok (.ifCond .eq 11, 3) := by decide +kernel
theorem dX10_choose_8 : decode cX10_choose 8 = .ok (.aload_n 0, 1) := by decide +kernel
theorem dX10_choose_9 : decode cX10_choose 9 = .ok (.iload_n 1, 1) := by decide +kernel
theorem dX10_choose_10 : decode cX10_choose 10 = .ok (.invokevirtual 302, 3) := by decide +kernel
theorem dX10_choose_13 : decode cX10_choose 13 = .ok (.goto 4, 3) := by decide +kernel
theorem dX10_choose_16 : decode cX10_choose 16 = .ok (.iconst (-1), 1) := by decide +kernel
theorem dX10_choose_17 : decode cX10_choose 17 = .ok (.ireturn, 1) := by decide +kernel
theorem dX10_isHindered_0 : decode cX10_isHindered 0 = .ok (.aload_n 0, 1) := by decide +kernel
theorem dX10_isHindered_1 : decode cX10_isHindered 1 = .ok (.getfield 38, 3) := by decide +kernel
theorem dX10_isHindered_4 : decode cX10_isHindered 4 = .ok (.iload_n 1, 1) := by decide +kernel
theorem dX10_isHindered_5 : decode cX10_isHindered 5 = .ok (.iaload, 1) := by decide +kernel
theorem dX10_isHindered_6 : decode cX10_isHindered 6 = .ok (.aload_n 0, 1) := by decide +kernel
theorem dX10_isHindered_7 : decode cX10_isHindered 7 = .ok (.getfield 29, 3) := by decide +kernel
theorem dX10_isHindered_10 : decode cX10_isHindered 10 = .ok (.iload_n 2, 1) := by decide +kernel
theorem dX10_isHindered_11 : decode cX10_isHindered 11 = .ok (.iaload, 1) := by decide +kernel
theorem dX10_isHindered_12 : decode cX10_isHindered 12 = .ok (.if_icmp .ge 7, 3) := by decide +kernel
theorem dX10_isHindered_15 : decode cX10_isHindered 15 = .ok (.iconst 1, 1) := by decide +kernel
theorem dX10_isHindered_16 : decode cX10_isHindered 16 = .ok (.goto 4, 3) := by decide +kernel
theorem dX10_isHindered_19 : decode cX10_isHindered 19 = .ok (.iconst 0, 1) := by decide +kernel
theorem dX10_isHindered_20 : decode cX10_isHindered 20 = .ok (.ireturn, 1) := by decide +kernel
theorem dX10_canGo_0 : decode cX10_canGo 0 = .ok (.aload_n 0, 1) := by decide +kernel
theorem dX10_canGo_1 : decode cX10_canGo 1 = .ok (.getfield 41, 3) := by decide +kernel
theorem dX10_canGo_4 : decode cX10_canGo 4 = .ok (.iload_n 1, 1) := by decide +kernel
theorem dX10_canGo_5 : decode cX10_canGo 5 = .ok (.iaload, 1) := by decide +kernel
theorem dX10_canGo_6 : decode cX10_canGo 6 = .ok (.iload_n 2, 1) := by decide +kernel
theorem dX10_canGo_7 : decode cX10_canGo 7 = .ok (.if_icmp .eq 24, 3) := by decide +kernel
theorem dX10_canGo_10 : decode cX10_canGo 10 = .ok (.aload_n 0, 1) := by decide +kernel
theorem dX10_canGo_11 : decode cX10_canGo 11 = .ok (.iload_n 2, 1) := by decide +kernel
theorem dX10_canGo_12 : decode cX10_canGo 12 = .ok (.invokevirtual 209, 3) := by decide +kernel
theorem dX10_canGo_15 : decode cX10_canGo 15 = .ok (.ifCond .eq 16, 3) := by decide +kernel
theorem dX10_canGo_18 : decode cX10_canGo 18 = .ok (.aload_n 0, 1) := by decide +kernel
theorem dX10_canGo_19 : decode cX10_canGo 19 = .ok (.iload_n 1, 1) := by decide +kernel
theorem dX10_canGo_20 : decode cX10_canGo 20 = .ok (.iload_n 2, 1) := by decide +kernel
theorem dX10_canGo_21 : decode cX10_canGo 21 = .ok (.invokevirtual 305, 3) := by decide +kernel
theorem dX10_canGo_24 : decode cX10_canGo 24 = .ok (.ifCond .ne 7, 3) := by decide +kernel
theorem dX10_canGo_27 : decode cX10_canGo 27 = .ok (.iconst 1, 1) := by decide +kernel
theorem dX10_canGo_28 : decode cX10_canGo 28 = .ok (.goto 4, 3) := by decide +kernel
theorem dX10_canGo_31 : decode cX10_canGo 31 = .ok (.iconst 0, 1) := by decide +kernel
theorem dX10_canGo_32 : decode cX10_canGo 32 = .ok (.ireturn, 1) := by decide +kernel
theorem dX10_stayBreak_0 : decode cX10_stayBreak 0 = .ok (.iconst 0, 1) := by decide +kernel
theorem dX10_stayBreak_1 : decode cX10_stayBreak 1 = .ok (.istore_n 1, 1) := by decide +kernel
theorem dX10_stayBreak_2 : decode cX10_stayBreak 2 = .ok (.iload_n 1, 1) := by decide +kernel
theorem dX10_stayBreak_3 : decode cX10_stayBreak 3 = .ok (.aload_n 0, 1) := by decide +kernel
theorem dX10_stayBreak_4 : decode cX10_stayBreak 4 = .ok (.getfield 13, 3) := by decide +kernel
theorem dX10_stayBreak_7 : decode cX10_stayBreak 7 = .ok (.if_icmp .ge 69, 3) := by decide +kernel
theorem dX10_stayBreak_10 : decode cX10_stayBreak 10 = .ok (.aload_n 0, 1) := by decide +kernel
theorem dX10_stayBreak_11 : decode cX10_stayBreak 11 = .ok (.iload_n 1, 1) := by decide +kernel
theorem dX10_stayBreak_12 : decode cX10_stayBreak 12 = .ok (.aload_n 0, 1) := by decide +kernel
theorem dX10_stayBreak_13 : decode cX10_stayBreak 13 = .ok (.getfield 41, 3) := by decide +kernel
theorem dX10_stayBreak_16 : decode cX10_stayBreak 16 = .ok (.iload_n 1, 1) := by decide +kernel
theorem dX10_stayBreak_17 : decode cX10_stayBreak 17 = .ok (.iaload, 1) := by decide +kernel
theorem dX10_stayBreak_18 : decode cX10_stayBreak 18 = .ok (.invokevirtual 225, 3) := by decide +kernel
theorem dX10_stayBreak_21 : decode cX10_stayBreak 21 = .ok (.lstore_n 2, 1) := by decide +kernel
theorem dX10_stayBreak_22 : decode cX10_stayBreak 22 = .ok (.iconst 0, 1) := by decide +kernel
theorem dX10_stayBreak_23 : decode cX10_stayBreak 23 = .ok (.istore 4, 2) := by decide +kernel
theorem dX10_stayBreak_25 : decode cX10_stayBreak 25 = .ok (.iload 4, 2) := by decide +kernel
theorem dX10_stayBreak_27 : decode cX10_stayBreak 27 = .ok (.aload_n 0, 1) := by decide +kernel
theorem dX10_stayBreak_28 : decode cX10_stayBreak 28 = .ok (.getfield 7, 3) := by decide +kernel
theorem dX10_stayBreak_31 : decode cX10_stayBreak 31 = .ok (.if_icmp .ge 39, 3) := by decide +kernel
theorem dX10_stayBreak_34 : decode cX10_stayBreak 34 = .ok (.aload_n 0, 1) := by decide +kernel
theorem dX10_stayBreak_35 : decode cX10_stayBreak 35 = .ok (.iload_n 1, 1) := by decide +kernel
theorem dX10_stayBreak_36 : decode cX10_stayBreak 36 = .ok (.iload 4, 2) := by decide +kernel
theorem dX10_stayBreak_38 : decode cX10_stayBreak 38 = .ok (.invokevirtual 308, 3) := by decide +kernel
theorem dX10_stayBreak_41 : decode cX10_stayBreak 41 = .ok (.ifCond .eq 23, 3) := by decide +kernel
theorem dX10_stayBreak_44 : decode cX10_stayBreak 44 = .ok (.aload_n 0, 1) := by decide +kernel
theorem dX10_stayBreak_45 : decode cX10_stayBreak 45 = .ok (.iload_n 1, 1) := by decide +kernel
theorem dX10_stayBreak_46 : decode cX10_stayBreak 46 = .ok (.iload 4, 2) := by decide +kernel
theorem dX10_stayBreak_48 : decode cX10_stayBreak 48 = .ok (.invokevirtual 225, 3) := by decide +kernel
theorem dX10_stayBreak_51 : decode cX10_stayBreak 51 = .ok (.lload_n 2, 1) := by decide +kernel
theorem dX10_stayBreak_52 : decode cX10_stayBreak 52 = .ok (.lcmp, 1) := by decide +kernel
theorem dX10_stayBreak_53 : decode cX10_stayBreak 53 = .ok (.ifCond .le 11, 3) := by decide +kernel
theorem dX10_stayBreak_56 : decode cX10_stayBreak 56 = .ok (.bipush 100, 2) := by decide +kernel
theorem dX10_stayBreak_58 : decode cX10_stayBreak 58 = .ok (.iload_n 1, 1) := by decide +kernel
theorem dX10_stayBreak_59 : decode cX10_stayBreak 59 = .ok (.imul, 1) := by decide +kernel
theorem dX10_stayBreak_60 : decode cX10_stayBreak 60 = .ok (.iload 4, 2) := by decide +kernel
theorem dX10_stayBreak_62 : decode cX10_stayBreak 62 = .ok (.iadd, 1) := by decide +kernel
theorem dX10_stayBreak_63 : decode cX10_stayBreak 63 = .ok (.ireturn, 1) := by decide +kernel
theorem dX10_stayBreak_64 : decode cX10_stayBreak 64 = .ok (.iinc 4 1, 3) := by decide +kernel
theorem dX10_stayBreak_67 : decode cX10_stayBreak 67 = .ok (.goto (-42), 3) := by decide +kernel
theorem dX10_stayBreak_70 : decode cX10_stayBreak 70 = .ok (.iinc 1 1, 3) := by decide +kernel
theorem dX10_stayBreak_73 : decode cX10_stayBreak 73 = .ok (.goto (-71), 3) := by decide +kernel
theorem dX10_stayBreak_76 : decode cX10_stayBreak 76 = .ok (.bipush (-5), 2) := by decide +kernel
theorem dX10_stayBreak_78 : decode cX10_stayBreak 78 = .ok (.ireturn, 1) := by decide +kernel
theorem dX10_voteBreak_0 : decode cX10_voteBreak 0 = .ok (.iconst 0, 1) := by decide +kernel
theorem dX10_voteBreak_1 : decode cX10_voteBreak 1 = .ok (.istore_n 1, 1) := by decide +kernel
theorem dX10_voteBreak_2 : decode cX10_voteBreak 2 = .ok (.iload_n 1, 1) := by decide +kernel
theorem dX10_voteBreak_3 : decode cX10_voteBreak 3 = .ok (.aload_n 0, 1) := by decide +kernel
theorem dX10_voteBreak_4 : decode cX10_voteBreak 4 = .ok (.getfield 7, 3) := by decide +kernel
theorem dX10_voteBreak_7 : decode cX10_voteBreak 7 = .ok (.if_icmp .ge 48, 3) := by decide +kernel
theorem dX10_voteBreak_10 : decode cX10_voteBreak 10 = .ok (.iconst 0, 1) := by decide +kernel
theorem dX10_voteBreak_11 : decode cX10_voteBreak 11 = .ok (.istore_n 2, 1) := by decide +kernel
theorem dX10_voteBreak_12 : decode cX10_voteBreak 12 = .ok (.iload_n 2, 1) := by decide +kernel
theorem dX10_voteBreak_13 : decode cX10_voteBreak 13 = .ok (.iconst 3, 1) := by decide +kernel
theorem dX10_voteBreak_14 : decode cX10_voteBreak 14 = .ok (.if_icmp .ge 35, 3) := by decide +kernel
theorem dX10_voteBreak_17 : decode cX10_voteBreak 17 = .ok (.aload_n 0, 1) := by decide +kernel
theorem dX10_voteBreak_18 : decode cX10_voteBreak 18 = .ok (.iload_n 1, 1) := by decide +kernel
theorem dX10_voteBreak_19 : decode cX10_voteBreak 19 = .ok (.iload_n 2, 1) := by decide +kernel
theorem dX10_voteBreak_20 : decode cX10_voteBreak 20 = .ok (.invokevirtual 299, 3) := by decide +kernel
theorem dX10_voteBreak_23 : decode cX10_voteBreak 23 = .ok (.aload_n 0, 1) := by decide +kernel
theorem dX10_voteBreak_24 : decode cX10_voteBreak 24 = .ok (.getfield 23, 3) := by decide +kernel
theorem dX10_voteBreak_27 : decode cX10_voteBreak 27 = .ok (.iconst 3, 1) := by decide +kernel
theorem dX10_voteBreak_28 : decode cX10_voteBreak 28 = .ok (.iload_n 1, 1) := by decide +kernel
theorem dX10_voteBreak_29 : decode cX10_voteBreak 29 = .ok (.imul, 1) := by decide +kernel
theorem dX10_voteBreak_30 : decode cX10_voteBreak 30 = .ok (.iload_n 2, 1) := by decide +kernel
theorem dX10_voteBreak_31 : decode cX10_voteBreak 31 = .ok (.iadd, 1) := by decide +kernel
theorem dX10_voteBreak_32 : decode cX10_voteBreak 32 = .ok (.iaload, 1) := by decide +kernel
theorem dX10_voteBreak_33 : decode cX10_voteBreak 33 = .ok (.if_icmp .eq 10, 3) := by decide +kernel
theorem dX10_voteBreak_36 : decode cX10_voteBreak 36 = .ok (.bipush 100, 2) := by decide +kernel
theorem dX10_voteBreak_38 : decode cX10_voteBreak 38 = .ok (.iload_n 1, 1) := by decide +kernel
theorem dX10_voteBreak_39 : decode cX10_voteBreak 39 = .ok (.imul, 1) := by decide +kernel
theorem dX10_voteBreak_40 : decode cX10_voteBreak 40 = .ok (.iload_n 2, 1) := by decide +kernel
theorem dX10_voteBreak_41 : decode cX10_voteBreak 41 = .ok (.iadd, 1) := by decide +kernel
theorem dX10_voteBreak_42 : decode cX10_voteBreak 42 = .ok (.ireturn, 1) := by decide +kernel
theorem dX10_voteBreak_43 : decode cX10_voteBreak 43 = .ok (.iinc 2 1, 3) := by decide +kernel
theorem dX10_voteBreak_46 : decode cX10_voteBreak 46 = .ok (.goto (-34), 3) := by decide +kernel
theorem dX10_voteBreak_49 : decode cX10_voteBreak 49 = .ok (.iinc 1 1, 3) := by decide +kernel
theorem dX10_voteBreak_52 : decode cX10_voteBreak 52 = .ok (.goto (-50), 3) := by decide +kernel
theorem dX10_voteBreak_55 : decode cX10_voteBreak 55 = .ok (.bipush (-5), 2) := by decide +kernel
theorem dX10_voteBreak_57 : decode cX10_voteBreak 57 = .ok (.ireturn, 1) := by decide +kernel
theorem dX10_rentBreak_0 : decode cX10_rentBreak 0 = .ok (.iconst 0, 1) := by decide +kernel
theorem dX10_rentBreak_1 : decode cX10_rentBreak 1 = .ok (.istore_n 1, 1) := by decide +kernel
theorem dX10_rentBreak_2 : decode cX10_rentBreak 2 = .ok (.iload_n 1, 1) := by decide +kernel
theorem dX10_rentBreak_3 : decode cX10_rentBreak 3 = .ok (.aload_n 0, 1) := by decide +kernel
theorem dX10_rentBreak_4 : decode cX10_rentBreak 4 = .ok (.getfield 13, 3) := by decide +kernel
theorem dX10_rentBreak_7 : decode cX10_rentBreak 7 = .ok (.if_icmp .ge 89, 3) := by decide +kernel
theorem dX10_rentBreak_10 : decode cX10_rentBreak 10 = .ok (.aload_n 0, 1) := by decide +kernel
theorem dX10_rentBreak_11 : decode cX10_rentBreak 11 = .ok (.iload_n 1, 1) := by decide +kernel
theorem dX10_rentBreak_12 : decode cX10_rentBreak 12 = .ok (.aload_n 0, 1) := by decide +kernel
theorem dX10_rentBreak_13 : decode cX10_rentBreak 13 = .ok (.getfield 41, 3) := by decide +kernel
theorem dX10_rentBreak_16 : decode cX10_rentBreak 16 = .ok (.iload_n 1, 1) := by decide +kernel
theorem dX10_rentBreak_17 : decode cX10_rentBreak 17 = .ok (.iaload, 1) := by decide +kernel
theorem dX10_rentBreak_18 : decode cX10_rentBreak 18 = .ok (.invokevirtual 225, 3) := by decide +kernel
theorem dX10_rentBreak_21 : decode cX10_rentBreak 21 = .ok (.lstore_n 2, 1) := by decide +kernel
theorem dX10_rentBreak_22 : decode cX10_rentBreak 22 = .ok (.iconst 0, 1) := by decide +kernel
theorem dX10_rentBreak_23 : decode cX10_rentBreak 23 = .ok (.istore 4, 2) := by decide +kernel
theorem dX10_rentBreak_25 : decode cX10_rentBreak 25 = .ok (.iload 4, 2) := by decide +kernel
theorem dX10_rentBreak_27 : decode cX10_rentBreak 27 = .ok (.aload_n 0, 1) := by decide +kernel
theorem dX10_rentBreak_28 : decode cX10_rentBreak 28 = .ok (.getfield 7, 3) := by decide +kernel
theorem dX10_rentBreak_31 : decode cX10_rentBreak 31 = .ok (.if_icmp .ge 59, 3) := by decide +kernel
theorem dX10_rentBreak_34 : decode cX10_rentBreak 34 = .ok (.aload_n 0, 1) := by decide +kernel
theorem dX10_rentBreak_35 : decode cX10_rentBreak 35 = .ok (.getfield 41, 3) := by decide +kernel
theorem dX10_rentBreak_38 : decode cX10_rentBreak 38 = .ok (.iload_n 1, 1) := by decide +kernel
theorem dX10_rentBreak_39 : decode cX10_rentBreak 39 = .ok (.iaload, 1) := by decide +kernel
theorem dX10_rentBreak_40 : decode cX10_rentBreak 40 = .ok (.iload 4, 2) := by decide +kernel
theorem dX10_rentBreak_42 : decode cX10_rentBreak 42 = .ok (.if_icmp .eq 42, 3) := by decide +kernel
theorem dX10_rentBreak_45 : decode cX10_rentBreak 45 = .ok (.aload_n 0, 1) := by decide +kernel
theorem dX10_rentBreak_46 : decode cX10_rentBreak 46 = .ok (.iload 4, 2) := by decide +kernel
theorem dX10_rentBreak_48 : decode cX10_rentBreak 48 = .ok (.invokevirtual 209, 3) := by decide +kernel
theorem dX10_rentBreak_51 : decode cX10_rentBreak 51 = .ok (.ifCond .ne 33, 3) := by decide +kernel
theorem dX10_rentBreak_54 : decode cX10_rentBreak 54 = .ok (.aload_n 0, 1) := by decide +kernel
theorem dX10_rentBreak_55 : decode cX10_rentBreak 55 = .ok (.iload_n 1, 1) := by decide +kernel
theorem dX10_rentBreak_56 : decode cX10_rentBreak 56 = .ok (.iload 4, 2) := by decide +kernel
theorem dX10_rentBreak_58 : decode cX10_rentBreak 58 = .ok (.invokevirtual 305, 3) := by decide +kernel
theorem dX10_rentBreak_61 : decode cX10_rentBreak 61 = .ok (.ifCond .ne 23, 3) := by decide +kernel
theorem dX10_rentBreak_64 : decode cX10_rentBreak 64 = .ok (.aload_n 0, 1) := by decide +kernel
theorem dX10_rentBreak_65 : decode cX10_rentBreak 65 = .ok (.iload_n 1, 1) := by decide +kernel
theorem dX10_rentBreak_66 : decode cX10_rentBreak 66 = .ok (.iload 4, 2) := by decide +kernel
theorem dX10_rentBreak_68 : decode cX10_rentBreak 68 = .ok (.invokevirtual 225, 3) := by decide +kernel
theorem dX10_rentBreak_71 : decode cX10_rentBreak 71 = .ok (.lload_n 2, 1) := by decide +kernel
theorem dX10_rentBreak_72 : decode cX10_rentBreak 72 = .ok (.lcmp, 1) := by decide +kernel
theorem dX10_rentBreak_73 : decode cX10_rentBreak 73 = .ok (.ifCond .le 11, 3) := by decide +kernel
theorem dX10_rentBreak_76 : decode cX10_rentBreak 76 = .ok (.bipush 100, 2) := by decide +kernel
theorem dX10_rentBreak_78 : decode cX10_rentBreak 78 = .ok (.iload_n 1, 1) := by decide +kernel
theorem dX10_rentBreak_79 : decode cX10_rentBreak 79 = .ok (.imul, 1) := by decide +kernel
theorem dX10_rentBreak_80 : decode cX10_rentBreak 80 = .ok (.iload 4, 2) := by decide +kernel
theorem dX10_rentBreak_82 : decode cX10_rentBreak 82 = .ok (.iadd, 1) := by decide +kernel
theorem dX10_rentBreak_83 : decode cX10_rentBreak 83 = .ok (.ireturn, 1) := by decide +kernel
theorem dX10_rentBreak_84 : decode cX10_rentBreak 84 = .ok (.iinc 4 1, 3) := by decide +kernel
theorem dX10_rentBreak_87 : decode cX10_rentBreak 87 = .ok (.goto (-62), 3) := by decide +kernel
theorem dX10_rentBreak_90 : decode cX10_rentBreak 90 = .ok (.iinc 1 1, 3) := by decide +kernel
theorem dX10_rentBreak_93 : decode cX10_rentBreak 93 = .ok (.goto (-91), 3) := by decide +kernel
theorem dX10_rentBreak_96 : decode cX10_rentBreak 96 = .ok (.iconst 0, 1) := by decide +kernel
theorem dX10_rentBreak_97 : decode cX10_rentBreak 97 = .ok (.istore_n 1, 1) := by decide +kernel
theorem dX10_rentBreak_98 : decode cX10_rentBreak 98 = .ok (.iload_n 1, 1) := by decide +kernel
theorem dX10_rentBreak_99 : decode cX10_rentBreak 99 = .ok (.aload_n 0, 1) := by decide +kernel
theorem dX10_rentBreak_100 : decode cX10_rentBreak 100 = .ok (.getfield 7, 3) := by decide +kernel
theorem dX10_rentBreak_103 : decode cX10_rentBreak 103 = .ok (.if_icmp .ge 32, 3) := by decide +kernel
theorem dX10_rentBreak_106 : decode cX10_rentBreak 106 = .ok (.aload_n 0, 1) := by decide +kernel
theorem dX10_rentBreak_107 : decode cX10_rentBreak 107 = .ok (.iload_n 1, 1) := by decide +kernel
theorem dX10_rentBreak_108 : decode cX10_rentBreak 108 = .ok (.invokevirtual 209, 3) := by decide +kernel
theorem dX10_rentBreak_111 : decode cX10_rentBreak 111 = .ok (.ifCond .eq 18, 3) := by decide +kernel
theorem dX10_rentBreak_114 : decode cX10_rentBreak 114 = .ok (.aload_n 0, 1) := by decide +kernel
theorem dX10_rentBreak_115 : decode cX10_rentBreak 115 = .ok (.getfield 26, 3) := by decide +kernel
theorem dX10_rentBreak_118 : decode cX10_rentBreak 118 = .ok (.iload_n 1, 1) := by decide +kernel
theorem dX10_rentBreak_119 : decode cX10_rentBreak 119 = .ok (.iaload, 1) := by decide +kernel
theorem dX10_rentBreak_120 : decode cX10_rentBreak 120 = .ok (.ifCond .le 9, 3) := by decide +kernel
theorem dX10_rentBreak_123 : decode cX10_rentBreak 123 = .ok (.sipush 1000, 3) := by decide +kernel
theorem dX10_rentBreak_126 : decode cX10_rentBreak 126 = .ok (.iload_n 1, 1) := by decide +kernel
theorem dX10_rentBreak_127 : decode cX10_rentBreak 127 = .ok (.iadd, 1) := by decide +kernel
theorem dX10_rentBreak_128 : decode cX10_rentBreak 128 = .ok (.ireturn, 1) := by decide +kernel
theorem dX10_rentBreak_129 : decode cX10_rentBreak 129 = .ok (.iinc 1 1, 3) := by decide +kernel
theorem dX10_rentBreak_132 : decode cX10_rentBreak 132 = .ok (.goto (-34), 3) := by decide +kernel
theorem dX10_rentBreak_135 : decode cX10_rentBreak 135 = .ok (.bipush (-5), 2) := by decide +kernel
theorem dX10_rentBreak_137 : decode cX10_rentBreak 137 = .ok (.ireturn, 1) := by decide +kernel
theorem dX10_seerBreak_0 : decode cX10_seerBreak 0 = .ok (.iconst 0, 1) := by decide +kernel
theorem dX10_seerBreak_1 : decode cX10_seerBreak 1 = .ok (.istore_n 1, 1) := by decide +kernel
theorem dX10_seerBreak_2 : decode cX10_seerBreak 2 = .ok (.iload_n 1, 1) := by decide +kernel
theorem dX10_seerBreak_3 : decode cX10_seerBreak 3 = .ok (.aload_n 0, 1) := by decide +kernel
theorem dX10_seerBreak_4 : decode cX10_seerBreak 4 = .ok (.getfield 13, 3) := by decide +kernel
theorem dX10_seerBreak_7 : decode cX10_seerBreak 7 = .ok (.if_icmp .ge 189, 3) := by decide +kernel
theorem dX10_seerBreak_10 : decode cX10_seerBreak 10 = .ok (.aload_n 0, 1) := by decide +kernel
theorem dX10_seerBreak_11 : decode cX10_seerBreak 11 = .ok (.iload_n 1, 1) := by decide +kernel
theorem dX10_seerBreak_12 : decode cX10_seerBreak 12 = .ok (.aload_n 0, 1) := by decide +kernel
theorem dX10_seerBreak_13 : decode cX10_seerBreak 13 = .ok (.getfield 41, 3) := by decide +kernel
theorem dX10_seerBreak_16 : decode cX10_seerBreak 16 = .ok (.iload_n 1, 1) := by decide +kernel
theorem dX10_seerBreak_17 : decode cX10_seerBreak 17 = .ok (.iaload, 1) := by decide +kernel
theorem dX10_seerBreak_18 : decode cX10_seerBreak 18 = .ok (.invokevirtual 225, 3) := by decide +kernel
theorem dX10_seerBreak_21 : decode cX10_seerBreak 21 = .ok (.lstore_n 2, 1) := by decide +kernel
theorem dX10_seerBreak_22 : decode cX10_seerBreak 22 = .ok (.aload_n 0, 1) := by decide +kernel
theorem dX10_seerBreak_23 : decode cX10_seerBreak 23 = .ok (.getfield 41, 3) := by decide +kernel
theorem dX10_seerBreak_26 : decode cX10_seerBreak 26 = .ok (.iload_n 1, 1) := by decide +kernel
theorem dX10_seerBreak_27 : decode cX10_seerBreak 27 = .ok (.iaload, 1) := by decide +kernel
theorem dX10_seerBreak_28 : decode cX10_seerBreak 28 = .ok (.istore 4, 2) := by decide +kernel
theorem dX10_seerBreak_30 : decode cX10_seerBreak 30 = .ok (.iconst 0, 1) := by decide +kernel
theorem dX10_seerBreak_31 : decode cX10_seerBreak 31 = .ok (.istore 5, 2) := by decide +kernel
theorem dX10_seerBreak_33 : decode cX10_seerBreak 33 = .ok (.iload 5, 2) := by decide +kernel
theorem dX10_seerBreak_35 : decode cX10_seerBreak 35 = .ok (.aload_n 0, 1) := by decide +kernel
theorem dX10_seerBreak_36 : decode cX10_seerBreak 36 = .ok (.getfield 7, 3) := by decide +kernel
theorem dX10_seerBreak_39 : decode cX10_seerBreak 39 = .ok (.if_icmp .ge 151, 3) := by decide +kernel
theorem dX10_seerBreak_42 : decode cX10_seerBreak 42 = .ok (.aload_n 0, 1) := by decide +kernel
theorem dX10_seerBreak_43 : decode cX10_seerBreak 43 = .ok (.iload_n 1, 1) := by decide +kernel
theorem dX10_seerBreak_44 : decode cX10_seerBreak 44 = .ok (.iload 5, 2) := by decide +kernel
theorem dX10_seerBreak_46 : decode cX10_seerBreak 46 = .ok (.invokevirtual 308, 3) := by decide +kernel
theorem dX10_seerBreak_49 : decode cX10_seerBreak 49 = .ok (.ifCond .ne 6, 3) := by decide +kernel
theorem dX10_seerBreak_52 : decode cX10_seerBreak 52 = .ok (.goto 132, 3) := by decide +kernel
theorem dX10_seerBreak_55 : decode cX10_seerBreak 55 = .ok (.iconst 0, 1) := by decide +kernel
theorem dX10_seerBreak_56 : decode cX10_seerBreak 56 = .ok (.istore 6, 2) := by decide +kernel
theorem dX10_seerBreak_58 : decode cX10_seerBreak 58 = .ok (.iload 6, 2) := by decide +kernel
theorem dX10_seerBreak_60 : decode cX10_seerBreak 60 = .ok (.iconst 3, 1) := by decide +kernel
theorem dX10_seerBreak_61 : decode cX10_seerBreak 61 = .ok (.if_icmp .ge 28, 3) := by decide +kernel
theorem dX10_seerBreak_64 : decode cX10_seerBreak 64 = .ok (.aload_n 0, 1) := by decide +kernel
theorem dX10_seerBreak_65 : decode cX10_seerBreak 65 = .ok (.getfield 139, 3) := by decide +kernel
theorem dX10_seerBreak_68 : decode cX10_seerBreak 68 = .ok (.iload 6, 2) := by decide +kernel
theorem dX10_seerBreak_70 : decode cX10_seerBreak 70 = .ok (.aload_n 0, 1) := by decide +kernel
theorem dX10_seerBreak_71 : decode cX10_seerBreak 71 = .ok (.getfield 23, 3) := by decide +kernel
theorem dX10_seerBreak_74 : decode cX10_seerBreak 74 = .ok (.iconst 3, 1) := by decide +kernel
theorem dX10_seerBreak_75 : decode cX10_seerBreak 75 = .ok (.iload 5, 2) := by decide +kernel
theorem dX10_seerBreak_77 : decode cX10_seerBreak 77 = .ok (.imul, 1) := by decide +kernel
theorem dX10_seerBreak_78 : decode cX10_seerBreak 78 = .ok (.iload 6, 2) := by decide +kernel
theorem dX10_seerBreak_80 : decode cX10_seerBreak 80 = .ok (.iadd, 1) := by decide +kernel
theorem dX10_seerBreak_81 : decode cX10_seerBreak 81 = .ok (.iaload, 1) := by decide +kernel
theorem dX10_seerBreak_82 : decode cX10_seerBreak 82 = .ok (.iastore, 1) := by decide +kernel
theorem dX10_seerBreak_83 : decode cX10_seerBreak 83 = .ok (.iinc 6 1, 3) := by decide +kernel
theorem dX10_seerBreak_86 : decode cX10_seerBreak 86 = .ok (.goto (-28), 3) := by decide +kernel
theorem dX10_seerBreak_89 : decode cX10_seerBreak 89 = .ok (.aload_n 0, 1) := by decide +kernel
theorem dX10_seerBreak_90 : decode cX10_seerBreak 90 = .ok (.getfield 41, 3) := by decide +kernel
theorem dX10_seerBreak_93 : decode cX10_seerBreak 93 = .ok (.iload_n 1, 1) := by decide +kernel
theorem dX10_seerBreak_94 : decode cX10_seerBreak 94 = .ok (.iload 5, 2) := by decide +kernel
theorem dX10_seerBreak_96 : decode cX10_seerBreak 96 = .ok (.iastore, 1) := by decide +kernel
theorem dX10_seerBreak_97 : decode cX10_seerBreak 97 = .ok (.aload_n 0, 1) := by decide +kernel
theorem dX10_seerBreak_98 : decode cX10_seerBreak 98 = .ok (.iload 5, 2) := by decide +kernel
theorem dX10_seerBreak_100 : decode cX10_seerBreak 100 = .ok (.invokevirtual 302, 3) := by decide +kernel
theorem dX10_seerBreak_103 : decode cX10_seerBreak 103 = .ok (.istore 6, 2) := by decide +kernel
theorem dX10_seerBreak_105 : decode cX10_seerBreak 105 = .ok (.aload_n 0, 1) := by decide +kernel
theorem dX10_seerBreak_106 : decode cX10_seerBreak 106 = .ok (.iload_n 1, 1) := by decide +kernel
theorem dX10_seerBreak_107 : decode cX10_seerBreak 107 = .ok (.iload 5, 2) := by decide +kernel
theorem dX10_seerBreak_109 : decode cX10_seerBreak 109 = .ok (.invokevirtual 225, 3) := by decide +kernel
theorem dX10_seerBreak_112 : decode cX10_seerBreak 112 = .ok (.lload_n 2, 1) := by decide +kernel
theorem dX10_seerBreak_113 : decode cX10_seerBreak 113 = .ok (.lcmp, 1) := by decide +kernel
theorem dX10_seerBreak_114 : decode cX10_seerBreak 114 = .ok (.ifCond .le 7, 3) := by decide +kernel
theorem dX10_seerBreak_117 : decode cX10_seerBreak 117 = .ok (.iconst 1, 1) := by decide +kernel
theorem dX10_seerBreak_118 : decode cX10_seerBreak 118 = .ok (.goto 4, 3) := by decide +kernel
theorem dX10_seerBreak_121 : decode cX10_seerBreak 121 = .ok (.iconst 0, 1) := by decide +kernel
theorem dX10_seerBreak_122 : decode cX10_seerBreak 122 = .ok (.istore 7, 2) := by decide +kernel
theorem dX10_seerBreak_124 : decode cX10_seerBreak 124 = .ok (.aload_n 0, 1) := by decide +kernel
theorem dX10_seerBreak_125 : decode cX10_seerBreak 125 = .ok (.getfield 41, 3) := by decide +kernel
theorem dX10_seerBreak_128 : decode cX10_seerBreak 128 = .ok (.iload_n 1, 1) := by decide +kernel
theorem dX10_seerBreak_129 : decode cX10_seerBreak 129 = .ok (.iload 4, 2) := by decide +kernel
theorem dX10_seerBreak_131 : decode cX10_seerBreak 131 = .ok (.iastore, 1) := by decide +kernel
theorem dX10_seerBreak_132 : decode cX10_seerBreak 132 = .ok (.iconst 0, 1) := by decide +kernel
theorem dX10_seerBreak_133 : decode cX10_seerBreak 133 = .ok (.istore 8, 2) := by decide +kernel
theorem dX10_seerBreak_135 : decode cX10_seerBreak 135 = .ok (.iload 8, 2) := by decide +kernel
theorem dX10_seerBreak_137 : decode cX10_seerBreak 137 = .ok (.iconst 3, 1) := by decide +kernel
theorem dX10_seerBreak_138 : decode cX10_seerBreak 138 = .ok (.if_icmp .ge 28, 3) := by decide +kernel
theorem dX10_seerBreak_141 : decode cX10_seerBreak 141 = .ok (.aload_n 0, 1) := by decide +kernel
theorem dX10_seerBreak_142 : decode cX10_seerBreak 142 = .ok (.getfield 23, 3) := by decide +kernel
theorem dX10_seerBreak_145 : decode cX10_seerBreak 145 = .ok (.iconst 3, 1) := by decide +kernel
theorem dX10_seerBreak_146 : decode cX10_seerBreak 146 = .ok (.iload 5, 2) := by decide +kernel
theorem dX10_seerBreak_148 : decode cX10_seerBreak 148 = .ok (.imul, 1) := by decide +kernel
theorem dX10_seerBreak_149 : decode cX10_seerBreak 149 = .ok (.iload 8, 2) := by decide +kernel
theorem dX10_seerBreak_151 : decode cX10_seerBreak 151 = .ok (.iadd, 1) := by decide +kernel
theorem dX10_seerBreak_152 : decode cX10_seerBreak 152 = .ok (.aload_n 0, 1) := by decide +kernel
theorem dX10_seerBreak_153 : decode cX10_seerBreak 153 = .ok (.getfield 139, 3) := by decide +kernel
theorem dX10_seerBreak_156 : decode cX10_seerBreak 156 = .ok (.iload 8, 2) := by decide +kernel
theorem dX10_seerBreak_158 : decode cX10_seerBreak 158 = .ok (.iaload, 1) := by decide +kernel
theorem dX10_seerBreak_159 : decode cX10_seerBreak 159 = .ok (.iastore, 1) := by decide +kernel
theorem dX10_seerBreak_160 : decode cX10_seerBreak 160 = .ok (.iinc 8 1, 3) := by decide +kernel
theorem dX10_seerBreak_163 : decode cX10_seerBreak 163 = .ok (.goto (-28), 3) := by decide +kernel
theorem dX10_seerBreak_166 : decode cX10_seerBreak 166 = .ok (.iload 7, 2) := by decide +kernel
theorem dX10_seerBreak_168 : decode cX10_seerBreak 168 = .ok (.ifCond .eq 16, 3) := by decide +kernel
theorem dX10_seerBreak_171 : decode cX10_seerBreak 171 = .ok (.iload 6, 2) := by decide +kernel
theorem dX10_seerBreak_173 : decode cX10_seerBreak 173 = .ok (.ifCond .lt 11, 3) := by decide +kernel
theorem dX10_seerBreak_176 : decode cX10_seerBreak 176 = .ok (.bipush 100, 2) := by decide +kernel
theorem dX10_seerBreak_178 : decode cX10_seerBreak 178 = .ok (.iload_n 1, 1) := by decide +kernel
theorem dX10_seerBreak_179 : decode cX10_seerBreak 179 = .ok (.imul, 1) := by decide +kernel
theorem dX10_seerBreak_180 : decode cX10_seerBreak 180 = .ok (.iload 5, 2) := by decide +kernel
theorem dX10_seerBreak_182 : decode cX10_seerBreak 182 = .ok (.iadd, 1) := by decide +kernel
theorem dX10_seerBreak_183 : decode cX10_seerBreak 183 = .ok (.ireturn, 1) := by decide +kernel
theorem dX10_seerBreak_184 : decode cX10_seerBreak 184 = .ok (.iinc 5 1, 3) := by decide +kernel
theorem dX10_seerBreak_187 : decode cX10_seerBreak 187 = .ok (.goto (-154), 3) := by decide +kernel
theorem dX10_seerBreak_190 : decode cX10_seerBreak 190 = .ok (.iinc 1 1, 3) := by decide +kernel
theorem dX10_seerBreak_193 : decode cX10_seerBreak 193 = .ok (.goto (-191), 3) := by decide +kernel
theorem dX10_seerBreak_196 : decode cX10_seerBreak 196 = .ok (.bipush (-5), 2) := by decide +kernel
theorem dX10_seerBreak_198 : decode cX10_seerBreak 198 = .ok (.ireturn, 1) := by decide +kernel
theorem dX10_isClub_0 : decode cX10_isClub 0 = .ok (.aload_n 0, 1) := by decide +kernel
theorem dX10_isClub_1 : decode cX10_isClub 1 = .ok (.iload_n 2, 1) := by decide +kernel
theorem dX10_isClub_2 : decode cX10_isClub 2 = .ok (.invokevirtual 201, 3) := by decide +kernel
theorem dX10_isClub_5 : decode cX10_isClub 5 = .ok (.ifCond .gt 17, 3) := by decide +kernel
theorem dX10_isClub_8 : decode cX10_isClub 8 = .ok (.aload_n 0, 1) := by decide +kernel
theorem dX10_isClub_9 : decode cX10_isClub 9 = .ok (.iload_n 1, 1) := by decide +kernel
theorem dX10_isClub_10 : decode cX10_isClub 10 = .ok (.invokevirtual 311, 3) := by decide +kernel
theorem dX10_isClub_13 : decode cX10_isClub 13 = .ok (.aload_n 0, 1) := by decide +kernel
theorem dX10_isClub_14 : decode cX10_isClub 14 = .ok (.getfield 19, 3) := by decide +kernel
theorem dX10_isClub_17 : decode cX10_isClub 17 = .ok (.iload_n 2, 1) := by decide +kernel
theorem dX10_isClub_18 : decode cX10_isClub 18 = .ok (.iaload, 1) := by decide +kernel
theorem dX10_isClub_19 : decode cX10_isClub 19 = .ok (.if_icmp .le 5, 3) := by decide +kernel
theorem dX10_isClub_22 : decode cX10_isClub 22 = .ok (.iconst 0, 1) := by decide +kernel
theorem dX10_isClub_23 : decode cX10_isClub 23 = .ok (.ireturn, 1) := by decide +kernel
theorem dX10_isClub_24 : decode cX10_isClub 24 = .ok (.iconst 0, 1) := by decide +kernel
theorem dX10_isClub_25 : decode cX10_isClub 25 = .ok (.istore_n 3, 1) := by decide +kernel
theorem dX10_isClub_26 : decode cX10_isClub 26 = .ok (.iload_n 3, 1) := by decide +kernel
theorem dX10_isClub_27 : decode cX10_isClub 27 = .ok (.aload_n 0, 1) := by decide +kernel
theorem dX10_isClub_28 : decode cX10_isClub 28 = .ok (.getfield 13, 3) := by decide +kernel
theorem dX10_isClub_31 : decode cX10_isClub 31 = .ok (.if_icmp .ge 38, 3) := by decide +kernel
theorem dX10_isClub_34 : decode cX10_isClub 34 = .ok (.aload_n 0, 1) := by decide +kernel
theorem dX10_isClub_35 : decode cX10_isClub 35 = .ok (.getfield 142, 3) := by decide +kernel
theorem dX10_isClub_38 : decode cX10_isClub 38 = .ok (.iload_n 3, 1) := by decide +kernel
theorem dX10_isClub_39 : decode cX10_isClub 39 = .ok (.aload_n 0, 1) := by decide +kernel
theorem dX10_isClub_40 : decode cX10_isClub 40 = .ok (.getfield 41, 3) := by decide +kernel
theorem dX10_isClub_43 : decode cX10_isClub 43 = .ok (.iload_n 3, 1) := by decide +kernel
theorem dX10_isClub_44 : decode cX10_isClub 44 = .ok (.iaload, 1) := by decide +kernel
theorem dX10_isClub_45 : decode cX10_isClub 45 = .ok (.iastore, 1) := by decide +kernel
theorem dX10_isClub_46 : decode cX10_isClub 46 = .ok (.aload_n 0, 1) := by decide +kernel
theorem dX10_isClub_47 : decode cX10_isClub 47 = .ok (.getfield 145, 3) := by decide +kernel
theorem dX10_isClub_50 : decode cX10_isClub 50 = .ok (.iload_n 3, 1) := by decide +kernel
theorem dX10_isClub_51 : decode cX10_isClub 51 = .ok (.aload_n 0, 1) := by decide +kernel
theorem dX10_isClub_52 : decode cX10_isClub 52 = .ok (.iload_n 3, 1) := by decide +kernel
theorem dX10_isClub_53 : decode cX10_isClub 53 = .ok (.aload_n 0, 1) := by decide +kernel
theorem dX10_isClub_54 : decode cX10_isClub 54 = .ok (.getfield 41, 3) := by decide +kernel
theorem dX10_isClub_57 : decode cX10_isClub 57 = .ok (.iload_n 3, 1) := by decide +kernel
theorem dX10_isClub_58 : decode cX10_isClub 58 = .ok (.iaload, 1) := by decide +kernel
theorem dX10_isClub_59 : decode cX10_isClub 59 = .ok (.invokevirtual 225, 3) := by decide +kernel
theorem dX10_isClub_62 : decode cX10_isClub 62 = .ok (.lastore, 1) := by decide +kernel
theorem dX10_isClub_63 : decode cX10_isClub 63 = .ok (.iinc 3 1, 3) := by decide +kernel
theorem dX10_isClub_66 : decode cX10_isClub 66 = .ok (.goto (-40), 3) := by decide +kernel
theorem dX10_isClub_69 : decode cX10_isClub 69 = .ok (.iconst 1, 1) := by decide +kernel
theorem dX10_isClub_70 : decode cX10_isClub 70 = .ok (.istore_n 3, 1) := by decide +kernel
theorem dX10_isClub_71 : decode cX10_isClub 71 = .ok (.iconst 0, 1) := by decide +kernel
theorem dX10_isClub_72 : decode cX10_isClub 72 = .ok (.istore 4, 2) := by decide +kernel
theorem dX10_isClub_74 : decode cX10_isClub 74 = .ok (.iload 4, 2) := by decide +kernel
theorem dX10_isClub_76 : decode cX10_isClub 76 = .ok (.aload_n 0, 1) := by decide +kernel
theorem dX10_isClub_77 : decode cX10_isClub 77 = .ok (.getfield 13, 3) := by decide +kernel
theorem dX10_isClub_80 : decode cX10_isClub 80 = .ok (.if_icmp .ge 49, 3) := by decide +kernel
theorem dX10_isClub_83 : decode cX10_isClub 83 = .ok (.iload_n 1, 1) := by decide +kernel
theorem dX10_isClub_84 : decode cX10_isClub 84 = .ok (.iload 4, 2) := by decide +kernel
theorem dX10_isClub_86 : decode cX10_isClub 86 = .ok (.ishr, 1) := by decide +kernel
theorem dX10_isClub_87 : decode cX10_isClub 87 = .ok (.iconst 1, 1) := by decide +kernel
theorem dX10_isClub_88 : decode cX10_isClub 88 = .ok (.iand, 1) := by decide +kernel
theorem dX10_isClub_89 : decode cX10_isClub 89 = .ok (.ifCond .ne 6, 3) := by decide +kernel
theorem dX10_isClub_92 : decode cX10_isClub 92 = .ok (.goto 31, 3) := by decide +kernel
theorem dX10_isClub_95 : decode cX10_isClub 95 = .ok (.iload_n 3, 1) := by decide +kernel
theorem dX10_isClub_96 : decode cX10_isClub 96 = .ok (.ifCond .eq 17, 3) := by decide +kernel
theorem dX10_isClub_99 : decode cX10_isClub 99 = .ok (.aload_n 0, 1) := by decide +kernel
theorem dX10_isClub_100 : decode cX10_isClub 100 = .ok (.iload 4, 2) := by decide +kernel
theorem dX10_isClub_102 : decode cX10_isClub 102 = .ok (.iload_n 2, 1) := by decide +kernel
theorem dX10_isClub_103 : decode cX10_isClub 103 = .ok (.invokevirtual 305, 3) := by decide +kernel
theorem dX10_isClub_106 : decode cX10_isClub 106 = .ok (.ifCond .ne 7, 3) := by decide +kernel
theorem dX10_isClub_109 : decode cX10_isClub 109 = .ok (.iconst 1, 1) := by decide +kernel
theorem dX10_isClub_110 : decode cX10_isClub 110 = .ok (.goto 4, 3) := by decide +kernel
theorem dX10_isClub_113 : decode cX10_isClub 113 = .ok (.iconst 0, 1) := by decide +kernel
theorem dX10_isClub_114 : decode cX10_isClub 114 = .ok (.istore_n 3, 1) := by decide +kernel
theorem dX10_isClub_115 : decode cX10_isClub 115 = .ok (.aload_n 0, 1) := by decide +kernel
theorem dX10_isClub_116 : decode cX10_isClub 116 = .ok (.getfield 41, 3) := by decide +kernel
theorem dX10_isClub_119 : decode cX10_isClub 119 = .ok (.iload 4, 2) := by decide +kernel
theorem dX10_isClub_121 : decode cX10_isClub 121 = .ok (.iload_n 2, 1) := by decide +kernel
theorem dX10_isClub_122 : decode cX10_isClub 122 = .ok (.iastore, 1) := by decide +kernel
theorem dX10_isClub_123 : decode cX10_isClub 123 = .ok (.iinc 4 1, 3) := by decide +kernel
theorem dX10_isClub_126 : decode cX10_isClub 126 = .ok (.goto (-52), 3) := by decide +kernel
theorem dX10_isClub_129 : decode cX10_isClub 129 = .ok (.iconst 0, 1) := by decide +kernel
theorem dX10_isClub_130 : decode cX10_isClub 130 = .ok (.istore 4, 2) := by decide +kernel
theorem dX10_isClub_132 : decode cX10_isClub 132 = .ok (.iload 4, 2) := by decide +kernel
theorem dX10_isClub_134 : decode cX10_isClub 134 = .ok (.aload_n 0, 1) := by decide +kernel
theorem dX10_isClub_135 : decode cX10_isClub 135 = .ok (.getfield 13, 3) := by decide +kernel
theorem dX10_isClub_138 : decode cX10_isClub 138 = .ok (.if_icmp .ge 46, 3) := by decide +kernel
theorem dX10_isClub_141 : decode cX10_isClub 141 = .ok (.iload_n 3, 1) := by decide +kernel
theorem dX10_isClub_142 : decode cX10_isClub 142 = .ok (.ifCond .eq 42, 3) := by decide +kernel
theorem dX10_isClub_145 : decode cX10_isClub 145 = .ok (.iload_n 1, 1) := by decide +kernel
theorem dX10_isClub_146 : decode cX10_isClub 146 = .ok (.iload 4, 2) := by decide +kernel
theorem dX10_isClub_148 : decode cX10_isClub 148 = .ok (.ishr, 1) := by decide +kernel
theorem dX10_isClub_149 : decode cX10_isClub 149 = .ok (.iconst 1, 1) := by decide +kernel
theorem dX10_isClub_150 : decode cX10_isClub 150 = .ok (.iand, 1) := by decide +kernel
theorem dX10_isClub_151 : decode cX10_isClub 151 = .ok (.ifCond .eq 21, 3) := by decide +kernel
theorem dX10_isClub_154 : decode cX10_isClub 154 = .ok (.aload_n 0, 1) := by decide +kernel
theorem dX10_isClub_155 : decode cX10_isClub 155 = .ok (.iload 4, 2) := by decide +kernel
theorem dX10_isClub_157 : decode cX10_isClub 157 = .ok (.iload_n 2, 1) := by decide +kernel
theorem dX10_isClub_158 : decode cX10_isClub 158 = .ok (.invokevirtual 225, 3) := by decide +kernel
theorem dX10_isClub_161 : decode cX10_isClub 161 = .ok (.aload_n 0, 1) := by decide +kernel
theorem dX10_isClub_162 : decode cX10_isClub 162 = .ok (.getfield 145, 3) := by decide +kernel
theorem dX10_isClub_165 : decode cX10_isClub 165 = .ok (.iload 4, 2) := by decide +kernel
theorem dX10_isClub_167 : decode cX10_isClub 167 = .ok (.laload, 1) := by decide +kernel
theorem dX10_isClub_168 : decode cX10_isClub 168 = .ok (.lcmp, 1) := by decide +kernel
theorem dX10_isClub_169 : decode cX10_isClub 169 = .ok (.ifCond .le 7, 3) := by decide +kernel
theorem dX10_isClub_172 : decode cX10_isClub 172 = .ok (.iconst 1, 1) := by decide +kernel
theorem dX10_isClub_173 : decode cX10_isClub 173 = .ok (.goto 4, 3) := by decide +kernel
theorem dX10_isClub_176 : decode cX10_isClub 176 = .ok (.iconst 0, 1) := by decide +kernel
theorem dX10_isClub_177 : decode cX10_isClub 177 = .ok (.istore_n 3, 1) := by decide +kernel
theorem dX10_isClub_178 : decode cX10_isClub 178 = .ok (.iinc 4 1, 3) := by decide +kernel
theorem dX10_isClub_181 : decode cX10_isClub 181 = .ok (.goto (-49), 3) := by decide +kernel
theorem dX10_isClub_184 : decode cX10_isClub 184 = .ok (.iconst 0, 1) := by decide +kernel
theorem dX10_isClub_185 : decode cX10_isClub 185 = .ok (.istore 4, 2) := by decide +kernel
theorem dX10_isClub_187 : decode cX10_isClub 187 = .ok (.iload 4, 2) := by decide +kernel
theorem dX10_isClub_189 : decode cX10_isClub 189 = .ok (.aload_n 0, 1) := by decide +kernel
theorem dX10_isClub_190 : decode cX10_isClub 190 = .ok (.getfield 13, 3) := by decide +kernel
theorem dX10_isClub_193 : decode cX10_isClub 193 = .ok (.if_icmp .ge 23, 3) := by decide +kernel
theorem dX10_isClub_196 : decode cX10_isClub 196 = .ok (.aload_n 0, 1) := by decide +kernel
theorem dX10_isClub_197 : decode cX10_isClub 197 = .ok (.getfield 41, 3) := by decide +kernel
theorem dX10_isClub_200 : decode cX10_isClub 200 = .ok (.iload 4, 2) := by decide +kernel
theorem dX10_isClub_202 : decode cX10_isClub 202 = .ok (.aload_n 0, 1) := by decide +kernel
theorem dX10_isClub_203 : decode cX10_isClub 203 = .ok (.getfield 142, 3) := by decide +kernel
theorem dX10_isClub_206 : decode cX10_isClub 206 = .ok (.iload 4, 2) := by decide +kernel
theorem dX10_isClub_208 : decode cX10_isClub 208 = .ok (.iaload, 1) := by decide +kernel
theorem dX10_isClub_209 : decode cX10_isClub 209 = .ok (.iastore, 1) := by decide +kernel
theorem dX10_isClub_210 : decode cX10_isClub 210 = .ok (.iinc 4 1, 3) := by decide +kernel
theorem dX10_isClub_213 : decode cX10_isClub 213 = .ok (.goto (-26), 3) := by decide +kernel
theorem dX10_isClub_216 : decode cX10_isClub 216 = .ok (.iload_n 3, 1) := by decide +kernel
theorem dX10_isClub_217 : decode cX10_isClub 217 = .ok (.ireturn, 1) := by decide +kernel
theorem dX10_clubBreak_0 : decode cX10_clubBreak 0 = .ok (.iconst 0, 1) := by decide +kernel
theorem dX10_clubBreak_1 : decode cX10_clubBreak 1 = .ok (.istore_n 1, 1) := by decide +kernel
theorem dX10_clubBreak_2 : decode cX10_clubBreak 2 = .ok (.iload_n 1, 1) := by decide +kernel
theorem dX10_clubBreak_3 : decode cX10_clubBreak 3 = .ok (.iconst 1, 1) := by decide +kernel
theorem dX10_clubBreak_4 : decode cX10_clubBreak 4 = .ok (.aload_n 0, 1) := by decide +kernel
theorem dX10_clubBreak_5 : decode cX10_clubBreak 5 = .ok (.getfield 13, 3) := by decide +kernel
theorem dX10_clubBreak_8 : decode cX10_clubBreak 8 = .ok (.ishl, 1) := by decide +kernel
theorem dX10_clubBreak_9 : decode cX10_clubBreak 9 = .ok (.if_icmp .ge 77, 3) := by decide +kernel
theorem dX10_clubBreak_12 : decode cX10_clubBreak 12 = .ok (.aload_n 0, 1) := by decide +kernel
theorem dX10_clubBreak_13 : decode cX10_clubBreak 13 = .ok (.aload_n 0, 1) := by decide +kernel
theorem dX10_clubBreak_14 : decode cX10_clubBreak 14 = .ok (.iload_n 1, 1) := by decide +kernel
theorem dX10_clubBreak_15 : decode cX10_clubBreak 15 = .ok (.invokevirtual 311, 3) := by decide +kernel
theorem dX10_clubBreak_18 : decode cX10_clubBreak 18 = .ok (.iconst 2, 1) := by decide +kernel
theorem dX10_clubBreak_19 : decode cX10_clubBreak 19 = .ok (.iconst 3, 1) := by decide +kernel
theorem dX10_clubBreak_20 : decode cX10_clubBreak 20 = .ok (.invokevirtual 197, 3) := by decide +kernel
theorem dX10_clubBreak_23 : decode cX10_clubBreak 23 = .ok (.ifCond .ne 6, 3) := by decide +kernel
theorem dX10_clubBreak_26 : decode cX10_clubBreak 26 = .ok (.goto 54, 3) := by decide +kernel
theorem dX10_clubBreak_29 : decode cX10_clubBreak 29 = .ok (.iconst 0, 1) := by decide +kernel
theorem dX10_clubBreak_30 : decode cX10_clubBreak 30 = .ok (.istore_n 2, 1) := by decide +kernel
theorem dX10_clubBreak_31 : decode cX10_clubBreak 31 = .ok (.iload_n 2, 1) := by decide +kernel
theorem dX10_clubBreak_32 : decode cX10_clubBreak 32 = .ok (.aload_n 0, 1) := by decide +kernel
theorem dX10_clubBreak_33 : decode cX10_clubBreak 33 = .ok (.getfield 7, 3) := by decide +kernel
theorem dX10_clubBreak_36 : decode cX10_clubBreak 36 = .ok (.if_icmp .ge 44, 3) := by decide +kernel
theorem dX10_clubBreak_39 : decode cX10_clubBreak 39 = .ok (.aload_n 0, 1) := by decide +kernel
theorem dX10_clubBreak_40 : decode cX10_clubBreak 40 = .ok (.iload_n 1, 1) := by decide +kernel
theorem dX10_clubBreak_41 : decode cX10_clubBreak 41 = .ok (.iload_n 2, 1) := by decide +kernel
theorem dX10_clubBreak_42 : decode cX10_clubBreak 42 = .ok (.invokevirtual 314, 3) := by decide +kernel
theorem dX10_clubBreak_45 : decode cX10_clubBreak 45 = .ok (.ifCond .ne 6, 3) := by decide +kernel
theorem dX10_clubBreak_48 : decode cX10_clubBreak 48 = .ok (.goto 26, 3) := by decide +kernel
theorem dX10_clubBreak_51 : decode cX10_clubBreak 51 = .ok (.iconst 0, 1) := by decide +kernel
theorem dX10_clubBreak_52 : decode cX10_clubBreak 52 = .ok (.istore_n 3, 1) := by decide +kernel
theorem dX10_clubBreak_53 : decode cX10_clubBreak 53 = .ok (.iload_n 1, 1) := by decide +kernel
theorem dX10_clubBreak_54 : decode cX10_clubBreak 54 = .ok (.iload_n 3, 1) := by decide +kernel
theorem dX10_clubBreak_55 : decode cX10_clubBreak 55 = .ok (.ishr, 1) := by decide +kernel
theorem dX10_clubBreak_56 : decode cX10_clubBreak 56 = .ok (.iconst 1, 1) := by decide +kernel
theorem dX10_clubBreak_57 : decode cX10_clubBreak 57 = .ok (.iand, 1) := by decide +kernel
theorem dX10_clubBreak_58 : decode cX10_clubBreak 58 = .ok (.ifCond .ne 9, 3) := by decide +kernel
theorem dX10_clubBreak_61 : decode cX10_clubBreak 61 = .ok (.iinc 3 1, 3) := by decide +kernel
theorem dX10_clubBreak_64 : decode cX10_clubBreak 64 = .ok (.goto (-11), 3) := by decide +kernel
theorem dX10_clubBreak_67 : decode cX10_clubBreak 67 = .ok (.bipush 100, 2) := by decide +kernel
theorem dX10_clubBreak_69 : decode cX10_clubBreak 69 = .ok (.iload_n 3, 1) := by decide +kernel
theorem dX10_clubBreak_70 : decode cX10_clubBreak 70 = .ok (.imul, 1) := by decide +kernel
theorem dX10_clubBreak_71 : decode cX10_clubBreak 71 = .ok (.iload_n 2, 1) := by decide +kernel
theorem dX10_clubBreak_72 : decode cX10_clubBreak 72 = .ok (.iadd, 1) := by decide +kernel
theorem dX10_clubBreak_73 : decode cX10_clubBreak 73 = .ok (.ireturn, 1) := by decide +kernel
theorem dX10_clubBreak_74 : decode cX10_clubBreak 74 = .ok (.iinc 2 1, 3) := by decide +kernel
theorem dX10_clubBreak_77 : decode cX10_clubBreak 77 = .ok (.goto (-46), 3) := by decide +kernel
theorem dX10_clubBreak_80 : decode cX10_clubBreak 80 = .ok (.iinc 1 1, 3) := by decide +kernel
theorem dX10_clubBreak_83 : decode cX10_clubBreak 83 = .ok (.goto (-81), 3) := by decide +kernel
theorem dX10_clubBreak_86 : decode cX10_clubBreak 86 = .ok (.bipush (-5), 2) := by decide +kernel
theorem dX10_clubBreak_88 : decode cX10_clubBreak 88 = .ok (.ireturn, 1) := by decide +kernel
theorem dX10_breakOf_0 : decode cX10_breakOf 0 = .ok (.aload_n 0, 1) := by decide +kernel
theorem dX10_breakOf_1 : decode cX10_breakOf 1 = .ok (.invokevirtual 317, 3) := by decide +kernel
theorem dX10_breakOf_4 : decode cX10_breakOf 4 = .ok (.istore_n 2, 1) := by decide +kernel
theorem dX10_breakOf_5 : decode cX10_breakOf 5 = .ok (.iload_n 2, 1) := by decide +kernel
theorem dX10_breakOf_6 : decode cX10_breakOf 6 = .ok (.bipush (-5), 2) := by decide +kernel
theorem dX10_breakOf_8 : decode cX10_breakOf 8 = .ok (.if_icmp .eq 5, 3) := by decide +kernel
theorem dX10_breakOf_11 : decode cX10_breakOf 11 = .ok (.iload_n 2, 1) := by decide +kernel
theorem dX10_breakOf_12 : decode cX10_breakOf 12 = .ok (.ireturn, 1) := by decide +kernel
theorem dX10_breakOf_13 : decode cX10_breakOf 13 = .ok (.iload_n 1, 1) := by decide +kernel
theorem dX10_breakOf_14 : decode cX10_breakOf 14 = .ok (.iconst 3, 1) := by decide +kernel
theorem dX10_breakOf_15 : decode cX10_breakOf 15 = .ok (.if_icmp .ne 8, 3) := by decide +kernel
theorem dX10_breakOf_18 : decode cX10_breakOf 18 = .ok (.aload_n 0, 1) := by decide +kernel
theorem dX10_breakOf_19 : decode cX10_breakOf 19 = .ok (.invokevirtual 320, 3) := by decide +kernel
theorem dX10_breakOf_22 : decode cX10_breakOf 22 = .ok (.ireturn, 1) := by decide +kernel
theorem dX10_breakOf_23 : decode cX10_breakOf 23 = .ok (.iload_n 1, 1) := by decide +kernel
theorem dX10_breakOf_24 : decode cX10_breakOf 24 = .ok (.iconst 5, 1) := by decide +kernel
theorem dX10_breakOf_25 : decode cX10_breakOf 25 = .ok (.if_icmp .ne 8, 3) := by decide +kernel
theorem dX10_breakOf_28 : decode cX10_breakOf 28 = .ok (.aload_n 0, 1) := by decide +kernel
theorem dX10_breakOf_29 : decode cX10_breakOf 29 = .ok (.invokevirtual 323, 3) := by decide +kernel
theorem dX10_breakOf_32 : decode cX10_breakOf 32 = .ok (.ireturn, 1) := by decide +kernel
theorem dX10_breakOf_33 : decode cX10_breakOf 33 = .ok (.iload_n 1, 1) := by decide +kernel
theorem dX10_breakOf_34 : decode cX10_breakOf 34 = .ok (.iconst 2, 1) := by decide +kernel
theorem dX10_breakOf_35 : decode cX10_breakOf 35 = .ok (.if_icmp .eq 8, 3) := by decide +kernel
theorem dX10_breakOf_38 : decode cX10_breakOf 38 = .ok (.iload_n 1, 1) := by decide +kernel
theorem dX10_breakOf_39 : decode cX10_breakOf 39 = .ok (.iconst 4, 1) := by decide +kernel
theorem dX10_breakOf_40 : decode cX10_breakOf 40 = .ok (.if_icmp .ne 8, 3) := by decide +kernel
theorem dX10_breakOf_43 : decode cX10_breakOf 43 = .ok (.aload_n 0, 1) := by decide +kernel
theorem dX10_breakOf_44 : decode cX10_breakOf 44 = .ok (.invokevirtual 326, 3) := by decide +kernel
theorem dX10_breakOf_47 : decode cX10_breakOf 47 = .ok (.istore_n 2, 1) := by decide +kernel
theorem dX10_breakOf_48 : decode cX10_breakOf 48 = .ok (.iload_n 2, 1) := by decide +kernel
theorem dX10_breakOf_49 : decode cX10_breakOf 49 = .ok (.bipush (-5), 2) := by decide +kernel
theorem dX10_breakOf_51 : decode cX10_breakOf 51 = .ok (.if_icmp .ne 15, 3) := by decide +kernel
theorem dX10_breakOf_54 : decode cX10_breakOf 54 = .ok (.iload_n 1, 1) := by decide +kernel
theorem dX10_breakOf_55 : decode cX10_breakOf 55 = .ok (.iconst 4, 1) := by decide +kernel
theorem dX10_breakOf_56 : decode cX10_breakOf 56 = .ok (.if_icmp .ne 10, 3) := by decide +kernel
theorem dX10_breakOf_59 : decode cX10_breakOf 59 = .ok (.aload_n 0, 1) := by decide +kernel
theorem dX10_breakOf_60 : decode cX10_breakOf 60 = .ok (.invokevirtual 329, 3) := by decide +kernel
theorem dX10_breakOf_63 : decode cX10_breakOf 63 = .ok (.goto 4, 3) := by decide +kernel
theorem dX10_breakOf_66 : decode cX10_breakOf 66 = .ok (.iload_n 2, 1) := by decide +kernel
theorem dX10_breakOf_67 : decode cX10_breakOf 67 = .ok (.ireturn, 1) := by decide +kernel
theorem dX10_isRest_0 : decode cX10_isRest 0 = .ok (.aload_n 0, 1) := by decide +kernel
theorem dX10_isRest_1 : decode cX10_isRest 1 = .ok (.iload_n 1, 1) := by decide +kernel
theorem dX10_isRest_2 : decode cX10_isRest 2 = .ok (.invokevirtual 332, 3) := by decide +kernel
theorem dX10_isRest_5 : decode cX10_isRest 5 = .ok (.bipush (-5), 2) := by decide +kernel
theorem dX10_isRest_7 : decode cX10_isRest 7 = .ok (.if_icmp .ne 7, 3) := by decide +kernel
theorem dX10_isRest_10 : decode cX10_isRest 10 = .ok (.iconst 1, 1) := by decide +kernel
theorem dX10_isRest_11 : decode cX10_isRest 11 = .ok (.goto 4, 3) := by decide +kernel
theorem dX10_isRest_14 : decode cX10_isRest 14 = .ok (.iconst 0, 1) := by decide +kernel
theorem dX10_isRest_15 : decode cX10_isRest 15 = .ok (.ireturn, 1) := by decide +kernel
theorem dX10_rest_0 : decode cX10_rest 0 = .ok (.aload_n 0, 1) := by decide +kernel
theorem dX10_rest_1 : decode cX10_rest 1 = .ok (.iload_n 1, 1) := by decide +kernel
theorem dX10_rest_2 : decode cX10_rest 2 = .ok (.iconst 1, 1) := by decide +kernel
theorem dX10_rest_3 : decode cX10_rest 3 = .ok (.iconst 5, 1) := by decide +kernel
theorem dX10_rest_4 : decode cX10_rest 4 = .ok (.invokevirtual 197, 3) := by decide +kernel
theorem dX10_rest_7 : decode cX10_rest 7 = .ok (.ifCond .ne 7, 3) := by decide +kernel
theorem dX10_rest_10 : decode cX10_rest 10 = .ok (.iconst (-1), 1) := by decide +kernel
theorem dX10_rest_11 : decode cX10_rest 11 = .ok (.goto 16, 3) := by decide +kernel
theorem dX10_rest_14 : decode cX10_rest 14 = .ok (.aload_n 0, 1) := by decide +kernel
theorem dX10_rest_15 : decode cX10_rest 15 = .ok (.iload_n 1, 1) := by decide +kernel
theorem dX10_rest_16 : decode cX10_rest 16 = .ok (.invokevirtual 335, 3) := by decide +kernel
theorem dX10_rest_19 : decode cX10_rest 19 = .ok (.ifCond .eq 7, 3) := by decide +kernel
theorem dX10_rest_22 : decode cX10_rest 22 = .ok (.iconst 1, 1) := by decide +kernel
theorem dX10_rest_23 : decode cX10_rest 23 = .ok (.goto 4, 3) := by decide +kernel
theorem dX10_rest_26 : decode cX10_rest 26 = .ok (.iconst 0, 1) := by decide +kernel
theorem dX10_rest_27 : decode cX10_rest 27 = .ok (.ireturn, 1) := by decide +kernel
theorem dX10_broken_0 : decode cX10_broken 0 = .ok (.aload_n 0, 1) := by decide +kernel
theorem dX10_broken_1 : decode cX10_broken 1 = .ok (.iload_n 1, 1) := by decide +kernel
theorem dX10_broken_2 : decode cX10_broken 2 = .ok (.iconst 1, 1) := by decide +kernel
theorem dX10_broken_3 : decode cX10_broken 3 = .ok (.iconst 5, 1) := by decide +kernel
theorem dX10_broken_4 : decode cX10_broken 4 = .ok (.invokevirtual 197, 3) := by decide +kernel
theorem dX10_broken_7 : decode cX10_broken 7 = .ok (.ifCond .eq 11, 3) := by decide +kernel
theorem dX10_broken_10 : decode cX10_broken 10 = .ok (.aload_n 0, 1) := by decide +kernel
theorem dX10_broken_11 : decode cX10_broken 11 = .ok (.iload_n 1, 1) := by decide +kernel
theorem dX10_broken_12 : decode cX10_broken 12 = .ok (.invokevirtual 332, 3) := by decide +kernel
theorem dX10_broken_15 : decode cX10_broken 15 = .ok (.goto 4, 3) := by decide +kernel
theorem dX10_broken_18 : decode cX10_broken 18 = .ok (.iconst (-1), 1) := by decide +kernel
theorem dX10_broken_19 : decode cX10_broken 19 = .ok (.ireturn, 1) := by decide +kernel
theorem dX10_go_0 : decode cX10_go 0 = .ok (.aload_n 0, 1) := by decide +kernel
theorem dX10_go_1 : decode cX10_go 1 = .ok (.iload_n 1, 1) := by decide +kernel
theorem dX10_go_2 : decode cX10_go 2 = .ok (.invokevirtual 216, 3) := by decide +kernel
theorem dX10_go_5 : decode cX10_go 5 = .ok (.ifCond .eq 11, 3) := by decide +kernel
theorem dX10_go_8 : decode cX10_go 8 = .ok (.aload_n 0, 1) := by decide +kernel
theorem dX10_go_9 : decode cX10_go 9 = .ok (.iload_n 2, 1) := by decide +kernel
theorem dX10_go_10 : decode cX10_go 10 = .ok (.invokevirtual 205, 3) := by decide +kernel
theorem dX10_go_13 : decode cX10_go 13 = .ok (.ifCond .ne 5, 3) := by decide +kernel
theorem dX10_go_16 : decode cX10_go 16 = .ok (.iconst (-1), 1) := by decide +kernel
theorem dX10_go_17 : decode cX10_go 17 = .ok (.ireturn, 1) := by decide +kernel
theorem dX10_go_18 : decode cX10_go 18 = .ok (.aload_n 0, 1) := by decide +kernel
theorem dX10_go_19 : decode cX10_go 19 = .ok (.iload_n 1, 1) := by decide +kernel
theorem dX10_go_20 : decode cX10_go 20 = .ok (.iload_n 2, 1) := by decide +kernel
theorem dX10_go_21 : decode cX10_go 21 = .ok (.invokevirtual 308, 3) := by decide +kernel
theorem dX10_go_24 : decode cX10_go 24 = .ok (.ifCond .ne 6, 3) := by decide +kernel
theorem dX10_go_27 : decode cX10_go 27 = .ok (.bipush (-3), 2) := by decide +kernel
theorem dX10_go_29 : decode cX10_go 29 = .ok (.ireturn, 1) := by decide +kernel
theorem dX10_go_30 : decode cX10_go 30 = .ok (.aload_n 0, 1) := by decide +kernel
theorem dX10_go_31 : decode cX10_go 31 = .ok (.getfield 41, 3) := by decide +kernel
theorem dX10_go_34 : decode cX10_go 34 = .ok (.iload_n 1, 1) := by decide +kernel
theorem dX10_go_35 : decode cX10_go 35 = .ok (.iaload, 1) := by decide +kernel
theorem dX10_go_36 : decode cX10_go 36 = .ok (.istore_n 3, 1) := by decide +kernel
theorem dX10_go_37 : decode cX10_go 37 = .ok (.aload_n 0, 1) := by decide +kernel
theorem dX10_go_38 : decode cX10_go 38 = .ok (.getfield 41, 3) := by decide +kernel
theorem dX10_go_41 : decode cX10_go 41 = .ok (.iload_n 1, 1) := by decide +kernel
theorem dX10_go_42 : decode cX10_go 42 = .ok (.iload_n 2, 1) := by decide +kernel
theorem dX10_go_43 : decode cX10_go 43 = .ok (.iastore, 1) := by decide +kernel
theorem dX10_go_44 : decode cX10_go 44 = .ok (.iload_n 3, 1) := by decide +kernel
theorem dX10_go_45 : decode cX10_go 45 = .ok (.ireturn, 1) := by decide +kernel
theorem dX10_stepOnce_0 : decode cX10_stepOnce 0 = .ok (.bipush (-5), 2) := by decide +kernel
theorem dX10_stepOnce_2 : decode cX10_stepOnce 2 = .ok (.istore_n 2, 1) := by decide +kernel
theorem dX10_stepOnce_3 : decode cX10_stepOnce 3 = .ok (.iconst 0, 1) := by decide +kernel
theorem dX10_stepOnce_4 : decode cX10_stepOnce 4 = .ok (.istore_n 3, 1) := by decide +kernel
theorem dX10_stepOnce_5 : decode cX10_stepOnce 5 = .ok (.iload_n 3, 1) := by decide +kernel
theorem dX10_stepOnce_6 : decode cX10_stepOnce 6 = .ok (.aload_n 0, 1) := by decide +kernel
theorem dX10_stepOnce_7 : decode cX10_stepOnce 7 = .ok (.getfield 13, 3) := by decide +kernel
theorem dX10_stepOnce_10 : decode cX10_stepOnce 10 = .ok (.if_icmp .ge 104, 3) := by decide +kernel
theorem dX10_stepOnce_13 : decode cX10_stepOnce 13 = .ok (.iload_n 2, 1) := by decide +kernel
theorem dX10_stepOnce_14 : decode cX10_stepOnce 14 = .ok (.ifCond .ge 100, 3) := by decide +kernel
theorem dX10_stepOnce_17 : decode cX10_stepOnce 17 = .ok (.aload_n 0, 1) := by decide +kernel
theorem dX10_stepOnce_18 : decode cX10_stepOnce 18 = .ok (.iload_n 3, 1) := by decide +kernel
theorem dX10_stepOnce_19 : decode cX10_stepOnce 19 = .ok (.aload_n 0, 1) := by decide +kernel
theorem dX10_stepOnce_20 : decode cX10_stepOnce 20 = .ok (.getfield 41, 3) := by decide +kernel
theorem dX10_stepOnce_23 : decode cX10_stepOnce 23 = .ok (.iload_n 3, 1) := by decide +kernel
theorem dX10_stepOnce_24 : decode cX10_stepOnce 24 = .ok (.iaload, 1) := by decide +kernel
theorem dX10_stepOnce_25 : decode cX10_stepOnce 25 = .ok (.invokevirtual 225, 3) := by decide +kernel
theorem dX10_stepOnce_28 : decode cX10_stepOnce 28 = .ok (.lstore 4, 2) := by decide +kernel
theorem dX10_stepOnce_30 : decode cX10_stepOnce 30 = .ok (.iconst (-1), 1) := by decide +kernel
theorem dX10_stepOnce_31 : decode cX10_stepOnce 31 = .ok (.istore 6, 2) := by decide +kernel
theorem dX10_stepOnce_33 : decode cX10_stepOnce 33 = .ok (.iconst 0, 1) := by decide +kernel
theorem dX10_stepOnce_34 : decode cX10_stepOnce 34 = .ok (.istore 7, 2) := by decide +kernel
theorem dX10_stepOnce_36 : decode cX10_stepOnce 36 = .ok (.iload 7, 2) := by decide +kernel
theorem dX10_stepOnce_38 : decode cX10_stepOnce 38 = .ok (.aload_n 0, 1) := by decide +kernel
theorem dX10_stepOnce_39 : decode cX10_stepOnce 39 = .ok (.getfield 7, 3) := by decide +kernel
theorem dX10_stepOnce_42 : decode cX10_stepOnce 42 = .ok (.if_icmp .ge 48, 3) := by decide +kernel
theorem dX10_stepOnce_45 : decode cX10_stepOnce 45 = .ok (.aload_n 0, 1) := by decide +kernel
theorem dX10_stepOnce_46 : decode cX10_stepOnce 46 = .ok (.iload_n 3, 1) := by decide +kernel
theorem dX10_stepOnce_47 : decode cX10_stepOnce 47 = .ok (.iload 7, 2) := by decide +kernel
theorem dX10_stepOnce_49 : decode cX10_stepOnce 49 = .ok (.invokevirtual 308, 3) := by decide +kernel
theorem dX10_stepOnce_52 : decode cX10_stepOnce 52 = .ok (.ifCond .eq 32, 3) := by decide +kernel
theorem dX10_stepOnce_55 : decode cX10_stepOnce 55 = .ok (.aload_n 0, 1) := by decide +kernel
theorem dX10_stepOnce_56 : decode cX10_stepOnce 56 = .ok (.iload_n 3, 1) := by decide +kernel
theorem dX10_stepOnce_57 : decode cX10_stepOnce 57 = .ok (.iload 7, 2) := by decide +kernel
theorem dX10_stepOnce_59 : decode cX10_stepOnce 59 = .ok (.invokevirtual 225, 3) := by decide +kernel
theorem dX10_stepOnce_62 : decode cX10_stepOnce 62 = .ok (.lload 4, 2) := by decide +kernel
theorem dX10_stepOnce_64 : decode cX10_stepOnce 64 = .ok (.lcmp, 1) := by decide +kernel
theorem dX10_stepOnce_65 : decode cX10_stepOnce 65 = .ok (.ifCond .gt 6, 3) := by decide +kernel
theorem dX10_stepOnce_68 : decode cX10_stepOnce 68 = .ok (.goto 16, 3) := by decide +kernel
theorem dX10_stepOnce_71 : decode cX10_stepOnce 71 = .ok (.aload_n 0, 1) := by decide +kernel
theorem dX10_stepOnce_72 : decode cX10_stepOnce 72 = .ok (.iload_n 3, 1) := by decide +kernel
theorem dX10_stepOnce_73 : decode cX10_stepOnce 73 = .ok (.iload 7, 2) := by decide +kernel
theorem dX10_stepOnce_75 : decode cX10_stepOnce 75 = .ok (.invokevirtual 225, 3) := by decide +kernel
theorem dX10_stepOnce_78 : decode cX10_stepOnce 78 = .ok (.lstore 4, 2) := by decide +kernel
theorem dX10_stepOnce_80 : decode cX10_stepOnce 80 = .ok (.iload 7, 2) := by decide +kernel
theorem dX10_stepOnce_82 : decode cX10_stepOnce 82 = .ok (.istore 6, 2) := by decide +kernel
theorem dX10_stepOnce_84 : decode cX10_stepOnce 84 = .ok (.iinc 7 1, 3) := by decide +kernel
theorem dX10_stepOnce_87 : decode cX10_stepOnce 87 = .ok (.goto (-51), 3) := by decide +kernel
theorem dX10_stepOnce_90 : decode cX10_stepOnce 90 = .ok (.iload 6, 2) := by decide +kernel
theorem dX10_stepOnce_92 : decode cX10_stepOnce 92 = .ok (.ifCond .ge 6, 3) := by decide +kernel
theorem dX10_stepOnce_95 : decode cX10_stepOnce 95 = .ok (.goto 13, 3) := by decide +kernel
theorem dX10_stepOnce_98 : decode cX10_stepOnce 98 = .ok (.aload_n 0, 1) := by decide +kernel
theorem dX10_stepOnce_99 : decode cX10_stepOnce 99 = .ok (.getfield 41, 3) := by decide +kernel
theorem dX10_stepOnce_102 : decode cX10_stepOnce 102 = .ok (.iload_n 3, 1) := by decide +kernel
theorem dX10_stepOnce_103 : decode cX10_stepOnce 103 = .ok (.iload 6, 2) := by decide +kernel
theorem dX10_stepOnce_105 : decode cX10_stepOnce 105 = .ok (.iastore, 1) := by decide +kernel
theorem dX10_stepOnce_106 : decode cX10_stepOnce 106 = .ok (.iload_n 3, 1) := by decide +kernel
theorem dX10_stepOnce_107 : decode cX10_stepOnce 107 = .ok (.istore_n 2, 1) := by decide +kernel
theorem dX10_stepOnce_108 : decode cX10_stepOnce 108 = .ok (.iinc 3 1, 3) := by decide +kernel
theorem dX10_stepOnce_111 : decode cX10_stepOnce 111 = .ok (.goto (-106), 3) := by decide +kernel
theorem dX10_stepOnce_114 : decode cX10_stepOnce 114 = .ok (.iconst 0, 1) := by decide +kernel
theorem dX10_stepOnce_115 : decode cX10_stepOnce 115 = .ok (.istore_n 3, 1) := by decide +kernel
theorem dX10_stepOnce_116 : decode cX10_stepOnce 116 = .ok (.iconst 0, 1) := by decide +kernel
theorem dX10_stepOnce_117 : decode cX10_stepOnce 117 = .ok (.istore 4, 2) := by decide +kernel
theorem dX10_stepOnce_119 : decode cX10_stepOnce 119 = .ok (.iload 4, 2) := by decide +kernel
theorem dX10_stepOnce_121 : decode cX10_stepOnce 121 = .ok (.aload_n 0, 1) := by decide +kernel
theorem dX10_stepOnce_122 : decode cX10_stepOnce 122 = .ok (.getfield 7, 3) := by decide +kernel
theorem dX10_stepOnce_125 : decode cX10_stepOnce 125 = .ok (.if_icmp .ge 22, 3) := by decide +kernel
theorem dX10_stepOnce_128 : decode cX10_stepOnce 128 = .ok (.iload_n 1, 1) := by decide +kernel
theorem dX10_stepOnce_129 : decode cX10_stepOnce 129 = .ok (.ifCond .eq 18, 3) := by decide +kernel
theorem dX10_stepOnce_132 : decode cX10_stepOnce 132 = .ok (.iload_n 3, 1) := by decide +kernel
theorem dX10_stepOnce_133 : decode cX10_stepOnce 133 = .ok (.aload_n 0, 1) := by decide +kernel
theorem dX10_stepOnce_134 : decode cX10_stepOnce 134 = .ok (.iload 4, 2) := by decide +kernel
theorem dX10_stepOnce_136 : decode cX10_stepOnce 136 = .ok (.invokevirtual 302, 3) := by decide +kernel
theorem dX10_stepOnce_139 : decode cX10_stepOnce 139 = .ok (.iadd, 1) := by decide +kernel
theorem dX10_stepOnce_140 : decode cX10_stepOnce 140 = .ok (.istore_n 3, 1) := by decide +kernel
theorem dX10_stepOnce_141 : decode cX10_stepOnce 141 = .ok (.iinc 4 1, 3) := by decide +kernel
theorem dX10_stepOnce_144 : decode cX10_stepOnce 144 = .ok (.goto (-25), 3) := by decide +kernel
theorem dX10_stepOnce_147 : decode cX10_stepOnce 147 = .ok (.iload_n 2, 1) := by decide +kernel
theorem dX10_stepOnce_148 : decode cX10_stepOnce 148 = .ok (.ifCond .ge 7, 3) := by decide +kernel
theorem dX10_stepOnce_151 : decode cX10_stepOnce 151 = .ok (.iload_n 3, 1) := by decide +kernel
theorem dX10_stepOnce_152 : decode cX10_stepOnce 152 = .ok (.ifCond .le 7, 3) := by decide +kernel
theorem dX10_stepOnce_155 : decode cX10_stepOnce 155 = .ok (.iload_n 2, 1) := by decide +kernel
theorem dX10_stepOnce_156 : decode cX10_stepOnce 156 = .ok (.goto 5, 3) := by decide +kernel
theorem dX10_stepOnce_159 : decode cX10_stepOnce 159 = .ok (.bipush (-6), 2) := by decide +kernel
theorem dX10_stepOnce_161 : decode cX10_stepOnce 161 = .ok (.ireturn, 1) := by decide +kernel
theorem dX10_step_0 : decode cX10_step 0 = .ok (.aload_n 0, 1) := by decide +kernel
theorem dX10_step_1 : decode cX10_step 1 = .ok (.iload_n 1, 1) := by decide +kernel
theorem dX10_step_2 : decode cX10_step 2 = .ok (.invokevirtual 338, 3) := by decide +kernel
theorem dX10_step_5 : decode cX10_step 5 = .ok (.ireturn, 1) := by decide +kernel
theorem dX10_keepState_0 : decode cX10_keepState 0 = .ok (.iconst 0, 1) := by decide +kernel
theorem dX10_keepState_1 : decode cX10_keepState 1 = .ok (.istore_n 2, 1) := by decide +kernel
theorem dX10_keepState_2 : decode cX10_keepState 2 = .ok (.iload_n 2, 1) := by decide +kernel
theorem dX10_keepState_3 : decode cX10_keepState 3 = .ok (.bipush 8, 2) := by decide +kernel
theorem dX10_keepState_5 : decode cX10_keepState 5 = .ok (.if_icmp .ge 38, 3) := by decide +kernel
theorem dX10_keepState_8 : decode cX10_keepState 8 = .ok (.aload_n 0, 1) := by decide +kernel
theorem dX10_keepState_9 : decode cX10_keepState 9 = .ok (.getfield 149, 3) := by decide +kernel
theorem dX10_keepState_12 : decode cX10_keepState 12 = .ok (.bipush 20, 2) := by decide +kernel
theorem dX10_keepState_14 : decode cX10_keepState 14 = .ok (.iload_n 1, 1) := by decide +kernel
theorem dX10_keepState_15 : decode cX10_keepState 15 = .ok (.imul, 1) := by decide +kernel
theorem dX10_keepState_16 : decode cX10_keepState 16 = .ok (.iload_n 2, 1) := by decide +kernel
theorem dX10_keepState_17 : decode cX10_keepState 17 = .ok (.iadd, 1) := by decide +kernel
theorem dX10_keepState_18 : decode cX10_keepState 18 = .ok (.iload_n 2, 1) := by decide +kernel
theorem dX10_keepState_19 : decode cX10_keepState 19 = .ok (.aload_n 0, 1) := by decide +kernel
theorem dX10_keepState_20 : decode cX10_keepState 20 = .ok (.getfield 13, 3) := by decide +kernel
theorem dX10_keepState_23 : decode cX10_keepState 23 = .ok (.if_icmp .ge 12, 3) := by decide +kernel
theorem dX10_keepState_26 : decode cX10_keepState 26 = .ok (.aload_n 0, 1) := by decide +kernel
theorem dX10_keepState_27 : decode cX10_keepState 27 = .ok (.getfield 41, 3) := by decide +kernel
theorem dX10_keepState_30 : decode cX10_keepState 30 = .ok (.iload_n 2, 1) := by decide +kernel
theorem dX10_keepState_31 : decode cX10_keepState 31 = .ok (.iaload, 1) := by decide +kernel
theorem dX10_keepState_32 : decode cX10_keepState 32 = .ok (.goto 4, 3) := by decide +kernel
theorem dX10_keepState_35 : decode cX10_keepState 35 = .ok (.iconst 0, 1) := by decide +kernel
theorem dX10_keepState_36 : decode cX10_keepState 36 = .ok (.iastore, 1) := by decide +kernel
theorem dX10_keepState_37 : decode cX10_keepState 37 = .ok (.iinc 2 1, 3) := by decide +kernel
theorem dX10_keepState_40 : decode cX10_keepState 40 = .ok (.goto (-38), 3) := by decide +kernel
theorem dX10_keepState_43 : decode cX10_keepState 43 = .ok (.iconst 0, 1) := by decide +kernel
theorem dX10_keepState_44 : decode cX10_keepState 44 = .ok (.istore_n 2, 1) := by decide +kernel
theorem dX10_keepState_45 : decode cX10_keepState 45 = .ok (.iload_n 2, 1) := by decide +kernel
theorem dX10_keepState_46 : decode cX10_keepState 46 = .ok (.bipush 12, 2) := by decide +kernel
theorem dX10_keepState_48 : decode cX10_keepState 48 = .ok (.if_icmp .ge 29, 3) := by decide +kernel
theorem dX10_keepState_51 : decode cX10_keepState 51 = .ok (.aload_n 0, 1) := by decide +kernel
theorem dX10_keepState_52 : decode cX10_keepState 52 = .ok (.getfield 149, 3) := by decide +kernel
theorem dX10_keepState_55 : decode cX10_keepState 55 = .ok (.bipush 20, 2) := by decide +kernel
theorem dX10_keepState_57 : decode cX10_keepState 57 = .ok (.iload_n 1, 1) := by decide +kernel
theorem dX10_keepState_58 : decode cX10_keepState 58 = .ok (.imul, 1) := by decide +kernel
theorem dX10_keepState_59 : decode cX10_keepState 59 = .ok (.bipush 8, 2) := by decide +kernel
theorem dX10_keepState_61 : decode cX10_keepState 61 = .ok (.iadd, 1) := by decide +kernel
theorem dX10_keepState_62 : decode cX10_keepState 62 = .ok (.iload_n 2, 1) := by decide +kernel
theorem dX10_keepState_63 : decode cX10_keepState 63 = .ok (.iadd, 1) := by decide +kernel
theorem dX10_keepState_64 : decode cX10_keepState 64 = .ok (.aload_n 0, 1) := by decide +kernel
theorem dX10_keepState_65 : decode cX10_keepState 65 = .ok (.getfield 23, 3) := by decide +kernel
theorem dX10_keepState_68 : decode cX10_keepState 68 = .ok (.iload_n 2, 1) := by decide +kernel
theorem dX10_keepState_69 : decode cX10_keepState 69 = .ok (.iaload, 1) := by decide +kernel
theorem dX10_keepState_70 : decode cX10_keepState 70 = .ok (.iastore, 1) := by decide +kernel
theorem dX10_keepState_71 : decode cX10_keepState 71 = .ok (.iinc 2 1, 3) := by decide +kernel
theorem dX10_keepState_74 : decode cX10_keepState 74 = .ok (.goto (-29), 3) := by decide +kernel
theorem dX10_keepState_77 : decode cX10_keepState 77 = .ok (.return_, 1) := by decide +kernel
theorem dX10_isState_0 : decode cX10_isState 0 = .ok (.iconst 0, 1) := by decide +kernel
theorem dX10_isState_1 : decode cX10_isState 1 = .ok (.istore_n 2, 1) := by decide +kernel
theorem dX10_isState_2 : decode cX10_isState 2 = .ok (.iload_n 2, 1) := by decide +kernel
theorem dX10_isState_3 : decode cX10_isState 3 = .ok (.aload_n 0, 1) := by decide +kernel
theorem dX10_isState_4 : decode cX10_isState 4 = .ok (.getfield 13, 3) := by decide +kernel
theorem dX10_isState_7 : decode cX10_isState 7 = .ok (.if_icmp .ge 31, 3) := by decide +kernel
theorem dX10_isState_10 : decode cX10_isState 10 = .ok (.aload_n 0, 1) := by decide +kernel
theorem dX10_isState_11 : decode cX10_isState 11 = .ok (.getfield 149, 3) := by decide +kernel
theorem dX10_isState_14 : decode cX10_isState 14 = .ok (.bipush 20, 2) := by decide +kernel
theorem dX10_isState_16 : decode cX10_isState 16 = .ok (.iload_n 1, 1) := by decide +kernel
theorem dX10_isState_17 : decode cX10_isState 17 = .ok (.imul, 1) := by decide +kernel
theorem dX10_isState_18 : decode cX10_isState 18 = .ok (.iload_n 2, 1) := by decide +kernel
theorem dX10_isState_19 : decode cX10_isState 19 = .ok (.iadd, 1) := by decide +kernel
theorem dX10_isState_20 : decode cX10_isState 20 = .ok (.iaload, 1) := by decide +kernel
theorem dX10_isState_21 : decode cX10_isState 21 = .ok (.aload_n 0, 1) := by decide +kernel
theorem dX10_isState_22 : decode cX10_isState 22 = .ok (.getfield 41, 3) := by decide +kernel
theorem dX10_isState_25 : decode cX10_isState 25 = .ok (.iload_n 2, 1) := by decide +kernel
theorem dX10_isState_26 : decode cX10_isState 26 = .ok (.iaload, 1) := by decide +kernel
theorem dX10_isState_27 : decode cX10_isState 27 = .ok (.if_icmp .eq 5, 3) := by decide +kernel
theorem dX10_isState_30 : decode cX10_isState 30 = .ok (.iconst 0, 1) := by decide +kernel
theorem dX10_isState_31 : decode cX10_isState 31 = .ok (.ireturn, 1) := by decide +kernel
theorem dX10_isState_32 : decode cX10_isState 32 = .ok (.iinc 2 1, 3) := by decide +kernel
theorem dX10_isState_35 : decode cX10_isState 35 = .ok (.goto (-33), 3) := by decide +kernel
theorem dX10_isState_38 : decode cX10_isState 38 = .ok (.iconst 0, 1) := by decide +kernel
theorem dX10_isState_39 : decode cX10_isState 39 = .ok (.istore_n 2, 1) := by decide +kernel
theorem dX10_isState_40 : decode cX10_isState 40 = .ok (.iload_n 2, 1) := by decide +kernel
theorem dX10_isState_41 : decode cX10_isState 41 = .ok (.bipush 12, 2) := by decide +kernel
theorem dX10_isState_43 : decode cX10_isState 43 = .ok (.if_icmp .ge 34, 3) := by decide +kernel
theorem dX10_isState_46 : decode cX10_isState 46 = .ok (.aload_n 0, 1) := by decide +kernel
theorem dX10_isState_47 : decode cX10_isState 47 = .ok (.getfield 149, 3) := by decide +kernel
theorem dX10_isState_50 : decode cX10_isState 50 = .ok (.bipush 20, 2) := by decide +kernel
theorem dX10_isState_52 : decode cX10_isState 52 = .ok (.iload_n 1, 1) := by decide +kernel
theorem dX10_isState_53 : decode cX10_isState 53 = .ok (.imul, 1) := by decide +kernel
theorem dX10_isState_54 : decode cX10_isState 54 = .ok (.bipush 8, 2) := by decide +kernel
theorem dX10_isState_56 : decode cX10_isState 56 = .ok (.iadd, 1) := by decide +kernel
theorem dX10_isState_57 : decode cX10_isState 57 = .ok (.iload_n 2, 1) := by decide +kernel
theorem dX10_isState_58 : decode cX10_isState 58 = .ok (.iadd, 1) := by decide +kernel
theorem dX10_isState_59 : decode cX10_isState 59 = .ok (.iaload, 1) := by decide +kernel
theorem dX10_isState_60 : decode cX10_isState 60 = .ok (.aload_n 0, 1) := by decide +kernel
theorem dX10_isState_61 : decode cX10_isState 61 = .ok (.getfield 23, 3) := by decide +kernel
theorem dX10_isState_64 : decode cX10_isState 64 = .ok (.iload_n 2, 1) := by decide +kernel
theorem dX10_isState_65 : decode cX10_isState 65 = .ok (.iaload, 1) := by decide +kernel
theorem dX10_isState_66 : decode cX10_isState 66 = .ok (.if_icmp .eq 5, 3) := by decide +kernel
theorem dX10_isState_69 : decode cX10_isState 69 = .ok (.iconst 0, 1) := by decide +kernel
theorem dX10_isState_70 : decode cX10_isState 70 = .ok (.ireturn, 1) := by decide +kernel
theorem dX10_isState_71 : decode cX10_isState 71 = .ok (.iinc 2 1, 3) := by decide +kernel
theorem dX10_isState_74 : decode cX10_isState 74 = .ok (.goto (-34), 3) := by decide +kernel
theorem dX10_isState_77 : decode cX10_isState 77 = .ok (.iconst 1, 1) := by decide +kernel
theorem dX10_isState_78 : decode cX10_isState 78 = .ok (.ireturn, 1) := by decide +kernel
theorem dX10_endAll_0 : decode cX10_endAll 0 = .ok (.aload_n 0, 1) := by decide +kernel
theorem dX10_endAll_1 : decode cX10_endAll 1 = .ok (.iconst 0, 1) := by decide +kernel
theorem dX10_endAll_2 : decode cX10_endAll 2 = .ok (.invokevirtual 342, 3) := by decide +kernel
theorem dX10_endAll_5 : decode cX10_endAll 5 = .ok (.iconst 1, 1) := by decide +kernel
theorem dX10_endAll_6 : decode cX10_endAll 6 = .ok (.istore_n 2, 1) := by decide +kernel
theorem dX10_endAll_7 : decode cX10_endAll 7 = .ok (.iload_n 2, 1) := by decide +kernel
theorem dX10_endAll_8 : decode cX10_endAll 8 = .ok (.bipush 20, 2) := by decide +kernel
theorem dX10_endAll_10 : decode cX10_endAll 10 = .ok (.if_icmp .gt 57, 3) := by decide +kernel
theorem dX10_endAll_13 : decode cX10_endAll 13 = .ok (.aload_n 0, 1) := by decide +kernel
theorem dX10_endAll_14 : decode cX10_endAll 14 = .ok (.iload_n 1, 1) := by decide +kernel
theorem dX10_endAll_15 : decode cX10_endAll 15 = .ok (.invokevirtual 338, 3) := by decide +kernel
theorem dX10_endAll_18 : decode cX10_endAll 18 = .ok (.bipush (-6), 2) := by decide +kernel
theorem dX10_endAll_20 : decode cX10_endAll 20 = .ok (.if_icmp .ne 7, 3) := by decide +kernel
theorem dX10_endAll_23 : decode cX10_endAll 23 = .ok (.iload_n 2, 1) := by decide +kernel
theorem dX10_endAll_24 : decode cX10_endAll 24 = .ok (.iconst 1, 1) := by decide +kernel
theorem dX10_endAll_25 : decode cX10_endAll 25 = .ok (.isub, 1) := by decide +kernel
theorem dX10_endAll_26 : decode cX10_endAll 26 = .ok (.ireturn, 1) := by decide +kernel
theorem dX10_endAll_27 : decode cX10_endAll 27 = .ok (.iload_n 2, 1) := by decide +kernel
theorem dX10_endAll_28 : decode cX10_endAll 28 = .ok (.iconst 1, 1) := by decide +kernel
theorem dX10_endAll_29 : decode cX10_endAll 29 = .ok (.isub, 1) := by decide +kernel
theorem dX10_endAll_30 : decode cX10_endAll 30 = .ok (.istore_n 3, 1) := by decide +kernel
theorem dX10_endAll_31 : decode cX10_endAll 31 = .ok (.iload_n 3, 1) := by decide +kernel
theorem dX10_endAll_32 : decode cX10_endAll 32 = .ok (.ifCond .lt 24, 3) := by decide +kernel
theorem dX10_endAll_35 : decode cX10_endAll 35 = .ok (.aload_n 0, 1) := by decide +kernel
theorem dX10_endAll_36 : decode cX10_endAll 36 = .ok (.iload_n 3, 1) := by decide +kernel
theorem dX10_endAll_37 : decode cX10_endAll 37 = .ok (.invokevirtual 345, 3) := by decide +kernel
theorem dX10_endAll_40 : decode cX10_endAll 40 = .ok (.ifCond .eq 10, 3) := by decide +kernel
theorem dX10_endAll_43 : decode cX10_endAll 43 = .ok (.bipush 100, 2) := by decide +kernel
theorem dX10_endAll_45 : decode cX10_endAll 45 = .ok (.iload_n 2, 1) := by decide +kernel
theorem dX10_endAll_46 : decode cX10_endAll 46 = .ok (.iadd, 1) := by decide +kernel
theorem dX10_endAll_47 : decode cX10_endAll 47 = .ok (.iload_n 3, 1) := by decide +kernel
theorem dX10_endAll_48 : decode cX10_endAll 48 = .ok (.isub, 1) := by decide +kernel
theorem dX10_endAll_49 : decode cX10_endAll 49 = .ok (.ireturn, 1) := by decide +kernel
theorem dX10_endAll_50 : decode cX10_endAll 50 = .ok (.iinc 3 (-1), 3) := by decide +kernel
theorem dX10_endAll_53 : decode cX10_endAll 53 = .ok (.goto (-22), 3) := by decide +kernel
theorem dX10_endAll_56 : decode cX10_endAll 56 = .ok (.aload_n 0, 1) := by decide +kernel
theorem dX10_endAll_57 : decode cX10_endAll 57 = .ok (.iload_n 2, 1) := by decide +kernel
theorem dX10_endAll_58 : decode cX10_endAll 58 = .ok (.invokevirtual 342, 3) := by decide +kernel
theorem dX10_endAll_61 : decode cX10_endAll 61 = .ok (.iinc 2 1, 3) := by decide +kernel
theorem dX10_endAll_64 : decode cX10_endAll 64 = .ok (.goto (-57), 3) := by decide +kernel
theorem dX10_endAll_67 : decode cX10_endAll 67 = .ok (.sipush 200, 3) := by decide +kernel
theorem dX10_endAll_70 : decode cX10_endAll 70 = .ok (.ireturn, 1) := by decide +kernel
theorem dX10_end_0 : decode cX10_end 0 = .ok (.aload_n 0, 1) := by decide +kernel
theorem dX10_end_1 : decode cX10_end 1 = .ok (.iload_n 1, 1) := by decide +kernel
theorem dX10_end_2 : decode cX10_end 2 = .ok (.invokevirtual 348, 3) := by decide +kernel
theorem dX10_end_5 : decode cX10_end 5 = .ok (.ireturn, 1) := by decide +kernel
theorem dX10_keep_0 : decode cX10_keep 0 = .ok (.iconst 0, 1) := by decide +kernel
theorem dX10_keep_1 : decode cX10_keep 1 = .ok (.istore_n 1, 1) := by decide +kernel
theorem dX10_keep_2 : decode cX10_keep 2 = .ok (.iload_n 1, 1) := by decide +kernel
theorem dX10_keep_3 : decode cX10_keep 3 = .ok (.bipush 8, 2) := by decide +kernel
theorem dX10_keep_5 : decode cX10_keep 5 = .ok (.if_icmp .ge 21, 3) := by decide +kernel
theorem dX10_keep_8 : decode cX10_keep 8 = .ok (.aload_n 0, 1) := by decide +kernel
theorem dX10_keep_9 : decode cX10_keep 9 = .ok (.getfield 152, 3) := by decide +kernel
theorem dX10_keep_12 : decode cX10_keep 12 = .ok (.iload_n 1, 1) := by decide +kernel
theorem dX10_keep_13 : decode cX10_keep 13 = .ok (.aload_n 0, 1) := by decide +kernel
theorem dX10_keep_14 : decode cX10_keep 14 = .ok (.getfield 41, 3) := by decide +kernel
theorem dX10_keep_17 : decode cX10_keep 17 = .ok (.iload_n 1, 1) := by decide +kernel
theorem dX10_keep_18 : decode cX10_keep 18 = .ok (.iaload, 1) := by decide +kernel
theorem dX10_keep_19 : decode cX10_keep 19 = .ok (.iastore, 1) := by decide +kernel
theorem dX10_keep_20 : decode cX10_keep 20 = .ok (.iinc 1 1, 3) := by decide +kernel
theorem dX10_keep_23 : decode cX10_keep 23 = .ok (.goto (-21), 3) := by decide +kernel
theorem dX10_keep_26 : decode cX10_keep 26 = .ok (.iconst 0, 1) := by decide +kernel
theorem dX10_keep_27 : decode cX10_keep 27 = .ok (.istore_n 1, 1) := by decide +kernel
theorem dX10_keep_28 : decode cX10_keep 28 = .ok (.iload_n 1, 1) := by decide +kernel
theorem dX10_keep_29 : decode cX10_keep 29 = .ok (.bipush 12, 2) := by decide +kernel
theorem dX10_keep_31 : decode cX10_keep 31 = .ok (.if_icmp .ge 24, 3) := by decide +kernel
theorem dX10_keep_34 : decode cX10_keep 34 = .ok (.aload_n 0, 1) := by decide +kernel
theorem dX10_keep_35 : decode cX10_keep 35 = .ok (.getfield 152, 3) := by decide +kernel
theorem dX10_keep_38 : decode cX10_keep 38 = .ok (.bipush 8, 2) := by decide +kernel
theorem dX10_keep_40 : decode cX10_keep 40 = .ok (.iload_n 1, 1) := by decide +kernel
theorem dX10_keep_41 : decode cX10_keep 41 = .ok (.iadd, 1) := by decide +kernel
theorem dX10_keep_42 : decode cX10_keep 42 = .ok (.aload_n 0, 1) := by decide +kernel
theorem dX10_keep_43 : decode cX10_keep 43 = .ok (.getfield 23, 3) := by decide +kernel
theorem dX10_keep_46 : decode cX10_keep 46 = .ok (.iload_n 1, 1) := by decide +kernel
theorem dX10_keep_47 : decode cX10_keep 47 = .ok (.iaload, 1) := by decide +kernel
theorem dX10_keep_48 : decode cX10_keep 48 = .ok (.iastore, 1) := by decide +kernel
theorem dX10_keep_49 : decode cX10_keep 49 = .ok (.iinc 1 1, 3) := by decide +kernel
theorem dX10_keep_52 : decode cX10_keep 52 = .ok (.goto (-24), 3) := by decide +kernel
theorem dX10_keep_55 : decode cX10_keep 55 = .ok (.iconst 0, 1) := by decide +kernel
theorem dX10_keep_56 : decode cX10_keep 56 = .ok (.istore_n 1, 1) := by decide +kernel
theorem dX10_keep_57 : decode cX10_keep 57 = .ok (.iload_n 1, 1) := by decide +kernel
theorem dX10_keep_58 : decode cX10_keep 58 = .ok (.iconst 4, 1) := by decide +kernel
theorem dX10_keep_59 : decode cX10_keep 59 = .ok (.if_icmp .ge 54, 3) := by decide +kernel
theorem dX10_keep_62 : decode cX10_keep 62 = .ok (.aload_n 0, 1) := by decide +kernel
theorem dX10_keep_63 : decode cX10_keep 63 = .ok (.getfield 152, 3) := by decide +kernel
theorem dX10_keep_66 : decode cX10_keep 66 = .ok (.bipush 20, 2) := by decide +kernel
theorem dX10_keep_68 : decode cX10_keep 68 = .ok (.iload_n 1, 1) := by decide +kernel
theorem dX10_keep_69 : decode cX10_keep 69 = .ok (.iadd, 1) := by decide +kernel
theorem dX10_keep_70 : decode cX10_keep 70 = .ok (.aload_n 0, 1) := by decide +kernel
theorem dX10_keep_71 : decode cX10_keep 71 = .ok (.getfield 26, 3) := by decide +kernel
theorem dX10_keep_74 : decode cX10_keep 74 = .ok (.iload_n 1, 1) := by decide +kernel
theorem dX10_keep_75 : decode cX10_keep 75 = .ok (.iaload, 1) := by decide +kernel
theorem dX10_keep_76 : decode cX10_keep 76 = .ok (.iastore, 1) := by decide +kernel
theorem dX10_keep_77 : decode cX10_keep 77 = .ok (.aload_n 0, 1) := by decide +kernel
theorem dX10_keep_78 : decode cX10_keep 78 = .ok (.getfield 152, 3) := by decide +kernel
theorem dX10_keep_81 : decode cX10_keep 81 = .ok (.bipush 24, 2) := by decide +kernel
theorem dX10_keep_83 : decode cX10_keep 83 = .ok (.iload_n 1, 1) := by decide +kernel
theorem dX10_keep_84 : decode cX10_keep 84 = .ok (.iadd, 1) := by decide +kernel
theorem dX10_keep_85 : decode cX10_keep 85 = .ok (.aload_n 0, 1) := by decide +kernel
theorem dX10_keep_86 : decode cX10_keep 86 = .ok (.getfield 29, 3) := by decide +kernel
theorem dX10_keep_89 : decode cX10_keep 89 = .ok (.iload_n 1, 1) := by decide +kernel
theorem dX10_keep_90 : decode cX10_keep 90 = .ok (.iaload, 1) := by decide +kernel
theorem dX10_keep_91 : decode cX10_keep 91 = .ok (.iastore, 1) := by decide +kernel
theorem dX10_keep_92 : decode cX10_keep 92 = .ok (.aload_n 0, 1) := by decide +kernel
theorem dX10_keep_93 : decode cX10_keep 93 = .ok (.getfield 152, 3) := by decide +kernel
theorem dX10_keep_96 : decode cX10_keep 96 = .ok (.bipush 28, 2) := by decide +kernel
theorem dX10_keep_98 : decode cX10_keep 98 = .ok (.iload_n 1, 1) := by decide +kernel
theorem dX10_keep_99 : decode cX10_keep 99 = .ok (.iadd, 1) := by decide +kernel
theorem dX10_keep_100 : decode cX10_keep 100 = .ok (.aload_n 0, 1) := by decide +kernel
theorem dX10_keep_101 : decode cX10_keep 101 = .ok (.getfield 32, 3) := by decide +kernel
theorem dX10_keep_104 : decode cX10_keep 104 = .ok (.iload_n 1, 1) := by decide +kernel
theorem dX10_keep_105 : decode cX10_keep 105 = .ok (.iaload, 1) := by decide +kernel
theorem dX10_keep_106 : decode cX10_keep 106 = .ok (.iastore, 1) := by decide +kernel
theorem dX10_keep_107 : decode cX10_keep 107 = .ok (.iinc 1 1, 3) := by decide +kernel
theorem dX10_keep_110 : decode cX10_keep 110 = .ok (.goto (-53), 3) := by decide +kernel
theorem dX10_keep_113 : decode cX10_keep 113 = .ok (.return_, 1) := by decide +kernel
theorem dX10_putBack_0 : decode cX10_putBack 0 = .ok (.iconst 0, 1) := by decide +kernel
theorem dX10_putBack_1 : decode cX10_putBack 1 = .ok (.istore_n 1, 1) := by decide +kernel
theorem dX10_putBack_2 : decode cX10_putBack 2 = .ok (.iload_n 1, 1) := by decide +kernel
theorem dX10_putBack_3 : decode cX10_putBack 3 = .ok (.bipush 8, 2) := by decide +kernel
theorem dX10_putBack_5 : decode cX10_putBack 5 = .ok (.if_icmp .ge 21, 3) := by decide +kernel
theorem dX10_putBack_8 : decode cX10_putBack 8 = .ok (.aload_n 0, 1) := by decide +kernel
theorem dX10_putBack_9 : decode cX10_putBack 9 = .ok (.getfield 41, 3) := by decide +kernel
theorem dX10_putBack_12 : decode cX10_putBack 12 = .ok (.iload_n 1, 1) := by decide +kernel
theorem dX10_putBack_13 : decode cX10_putBack 13 = .ok (.aload_n 0, 1) := by decide +kernel
theorem dX10_putBack_14 : decode cX10_putBack 14 = .ok (.getfield 152, 3) := by decide +kernel
theorem dX10_putBack_17 : decode cX10_putBack 17 = .ok (.iload_n 1, 1) := by decide +kernel
theorem dX10_putBack_18 : decode cX10_putBack 18 = .ok (.iaload, 1) := by decide +kernel
theorem dX10_putBack_19 : decode cX10_putBack 19 = .ok (.iastore, 1) := by decide +kernel
theorem dX10_putBack_20 : decode cX10_putBack 20 = .ok (.iinc 1 1, 3) := by decide +kernel
theorem dX10_putBack_23 : decode cX10_putBack 23 = .ok (.goto (-21), 3) := by decide +kernel
theorem dX10_putBack_26 : decode cX10_putBack 26 = .ok (.iconst 0, 1) := by decide +kernel
theorem dX10_putBack_27 : decode cX10_putBack 27 = .ok (.istore_n 1, 1) := by decide +kernel
theorem dX10_putBack_28 : decode cX10_putBack 28 = .ok (.iload_n 1, 1) := by decide +kernel
theorem dX10_putBack_29 : decode cX10_putBack 29 = .ok (.bipush 12, 2) := by decide +kernel
theorem dX10_putBack_31 : decode cX10_putBack 31 = .ok (.if_icmp .ge 24, 3) := by decide +kernel
theorem dX10_putBack_34 : decode cX10_putBack 34 = .ok (.aload_n 0, 1) := by decide +kernel
theorem dX10_putBack_35 : decode cX10_putBack 35 = .ok (.getfield 23, 3) := by decide +kernel
theorem dX10_putBack_38 : decode cX10_putBack 38 = .ok (.iload_n 1, 1) := by decide +kernel
theorem dX10_putBack_39 : decode cX10_putBack 39 = .ok (.aload_n 0, 1) := by decide +kernel
theorem dX10_putBack_40 : decode cX10_putBack 40 = .ok (.getfield 152, 3) := by decide +kernel
theorem dX10_putBack_43 : decode cX10_putBack 43 = .ok (.bipush 8, 2) := by decide +kernel
theorem dX10_putBack_45 : decode cX10_putBack 45 = .ok (.iload_n 1, 1) := by decide +kernel
theorem dX10_putBack_46 : decode cX10_putBack 46 = .ok (.iadd, 1) := by decide +kernel
theorem dX10_putBack_47 : decode cX10_putBack 47 = .ok (.iaload, 1) := by decide +kernel
theorem dX10_putBack_48 : decode cX10_putBack 48 = .ok (.iastore, 1) := by decide +kernel
theorem dX10_putBack_49 : decode cX10_putBack 49 = .ok (.iinc 1 1, 3) := by decide +kernel
theorem dX10_putBack_52 : decode cX10_putBack 52 = .ok (.goto (-24), 3) := by decide +kernel
theorem dX10_putBack_55 : decode cX10_putBack 55 = .ok (.iconst 0, 1) := by decide +kernel
theorem dX10_putBack_56 : decode cX10_putBack 56 = .ok (.istore_n 1, 1) := by decide +kernel
theorem dX10_putBack_57 : decode cX10_putBack 57 = .ok (.iload_n 1, 1) := by decide +kernel
theorem dX10_putBack_58 : decode cX10_putBack 58 = .ok (.iconst 4, 1) := by decide +kernel
theorem dX10_putBack_59 : decode cX10_putBack 59 = .ok (.if_icmp .ge 54, 3) := by decide +kernel
theorem dX10_putBack_62 : decode cX10_putBack 62 = .ok (.aload_n 0, 1) := by decide +kernel
theorem dX10_putBack_63 : decode cX10_putBack 63 = .ok (.getfield 26, 3) := by decide +kernel
theorem dX10_putBack_66 : decode cX10_putBack 66 = .ok (.iload_n 1, 1) := by decide +kernel
theorem dX10_putBack_67 : decode cX10_putBack 67 = .ok (.aload_n 0, 1) := by decide +kernel
theorem dX10_putBack_68 : decode cX10_putBack 68 = .ok (.getfield 152, 3) := by decide +kernel
theorem dX10_putBack_71 : decode cX10_putBack 71 = .ok (.bipush 20, 2) := by decide +kernel
theorem dX10_putBack_73 : decode cX10_putBack 73 = .ok (.iload_n 1, 1) := by decide +kernel
theorem dX10_putBack_74 : decode cX10_putBack 74 = .ok (.iadd, 1) := by decide +kernel
theorem dX10_putBack_75 : decode cX10_putBack 75 = .ok (.iaload, 1) := by decide +kernel
theorem dX10_putBack_76 : decode cX10_putBack 76 = .ok (.iastore, 1) := by decide +kernel
theorem dX10_putBack_77 : decode cX10_putBack 77 = .ok (.aload_n 0, 1) := by decide +kernel
theorem dX10_putBack_78 : decode cX10_putBack 78 = .ok (.getfield 29, 3) := by decide +kernel
theorem dX10_putBack_81 : decode cX10_putBack 81 = .ok (.iload_n 1, 1) := by decide +kernel
theorem dX10_putBack_82 : decode cX10_putBack 82 = .ok (.aload_n 0, 1) := by decide +kernel
theorem dX10_putBack_83 : decode cX10_putBack 83 = .ok (.getfield 152, 3) := by decide +kernel
theorem dX10_putBack_86 : decode cX10_putBack 86 = .ok (.bipush 24, 2) := by decide +kernel
theorem dX10_putBack_88 : decode cX10_putBack 88 = .ok (.iload_n 1, 1) := by decide +kernel
theorem dX10_putBack_89 : decode cX10_putBack 89 = .ok (.iadd, 1) := by decide +kernel
theorem dX10_putBack_90 : decode cX10_putBack 90 = .ok (.iaload, 1) := by decide +kernel
theorem dX10_putBack_91 : decode cX10_putBack 91 = .ok (.iastore, 1) := by decide +kernel
theorem dX10_putBack_92 : decode cX10_putBack 92 = .ok (.aload_n 0, 1) := by decide +kernel
theorem dX10_putBack_93 : decode cX10_putBack 93 = .ok (.getfield 32, 3) := by decide +kernel
theorem dX10_putBack_96 : decode cX10_putBack 96 = .ok (.iload_n 1, 1) := by decide +kernel
theorem dX10_putBack_97 : decode cX10_putBack 97 = .ok (.aload_n 0, 1) := by decide +kernel
theorem dX10_putBack_98 : decode cX10_putBack 98 = .ok (.getfield 152, 3) := by decide +kernel
theorem dX10_putBack_101 : decode cX10_putBack 101 = .ok (.bipush 28, 2) := by decide +kernel
theorem dX10_putBack_103 : decode cX10_putBack 103 = .ok (.iload_n 1, 1) := by decide +kernel
theorem dX10_putBack_104 : decode cX10_putBack 104 = .ok (.iadd, 1) := by decide +kernel
theorem dX10_putBack_105 : decode cX10_putBack 105 = .ok (.iaload, 1) := by decide +kernel
theorem dX10_putBack_106 : decode cX10_putBack 106 = .ok (.iastore, 1) := by decide +kernel
theorem dX10_putBack_107 : decode cX10_putBack 107 = .ok (.iinc 1 1, 3) := by decide +kernel
theorem dX10_putBack_110 : decode cX10_putBack 110 = .ok (.goto (-53), 3) := by decide +kernel
theorem dX10_putBack_113 : decode cX10_putBack 113 = .ok (.return_, 1) := by decide +kernel
theorem dX10_isRoom_0 : decode cX10_isRoom 0 = .ok (.iconst 0, 1) := by decide +kernel
theorem dX10_isRoom_1 : decode cX10_isRoom 1 = .ok (.istore_n 1, 1) := by decide +kernel
theorem dX10_isRoom_2 : decode cX10_isRoom 2 = .ok (.iload_n 1, 1) := by decide +kernel
theorem dX10_isRoom_3 : decode cX10_isRoom 3 = .ok (.aload_n 0, 1) := by decide +kernel
theorem dX10_isRoom_4 : decode cX10_isRoom 4 = .ok (.getfield 7, 3) := by decide +kernel
theorem dX10_isRoom_7 : decode cX10_isRoom 7 = .ok (.if_icmp .ge 25, 3) := by decide +kernel
theorem dX10_isRoom_10 : decode cX10_isRoom 10 = .ok (.aload_n 0, 1) := by decide +kernel
theorem dX10_isRoom_11 : decode cX10_isRoom 11 = .ok (.iload_n 1, 1) := by decide +kernel
theorem dX10_isRoom_12 : decode cX10_isRoom 12 = .ok (.invokevirtual 201, 3) := by decide +kernel
theorem dX10_isRoom_15 : decode cX10_isRoom 15 = .ok (.aload_n 0, 1) := by decide +kernel
theorem dX10_isRoom_16 : decode cX10_isRoom 16 = .ok (.getfield 19, 3) := by decide +kernel
theorem dX10_isRoom_19 : decode cX10_isRoom 19 = .ok (.iload_n 1, 1) := by decide +kernel
theorem dX10_isRoom_20 : decode cX10_isRoom 20 = .ok (.iaload, 1) := by decide +kernel
theorem dX10_isRoom_21 : decode cX10_isRoom 21 = .ok (.if_icmp .le 5, 3) := by decide +kernel
theorem dX10_isRoom_24 : decode cX10_isRoom 24 = .ok (.iconst 0, 1) := by decide +kernel
theorem dX10_isRoom_25 : decode cX10_isRoom 25 = .ok (.ireturn, 1) := by decide +kernel
theorem dX10_isRoom_26 : decode cX10_isRoom 26 = .ok (.iinc 1 1, 3) := by decide +kernel
theorem dX10_isRoom_29 : decode cX10_isRoom 29 = .ok (.goto (-27), 3) := by decide +kernel
theorem dX10_isRoom_32 : decode cX10_isRoom 32 = .ok (.iconst 1, 1) := by decide +kernel
theorem dX10_isRoom_33 : decode cX10_isRoom 33 = .ok (.ireturn, 1) := by decide +kernel
theorem dX10_judge_0 : decode cX10_judge 0 = .ok (.aload_n 0, 1) := by decide +kernel
theorem dX10_judge_1 : decode cX10_judge 1 = .ok (.iload_n 1, 1) := by decide +kernel
theorem dX10_judge_2 : decode cX10_judge 2 = .ok (.invokevirtual 351, 3) := by decide +kernel
theorem dX10_judge_5 : decode cX10_judge 5 = .ok (.ifCond .eq 13, 3) := by decide +kernel
theorem dX10_judge_8 : decode cX10_judge 8 = .ok (.aload_n 0, 1) := by decide +kernel
theorem dX10_judge_9 : decode cX10_judge 9 = .ok (.iload_n 3, 1) := by decide +kernel
theorem dX10_judge_10 : decode cX10_judge 10 = .ok (.iconst 1, 1) := by decide +kernel
theorem dX10_judge_11 : decode cX10_judge 11 = .ok (.iconst 5, 1) := by decide +kernel
theorem dX10_judge_12 : decode cX10_judge 12 = .ok (.invokevirtual 197, 3) := by decide +kernel
theorem dX10_judge_15 : decode cX10_judge 15 = .ok (.ifCond .ne 5, 3) := by decide +kernel
theorem dX10_judge_18 : decode cX10_judge 18 = .ok (.iconst (-1), 1) := by decide +kernel
theorem dX10_judge_19 : decode cX10_judge 19 = .ok (.ireturn, 1) := by decide +kernel
theorem dX10_judge_20 : decode cX10_judge 20 = .ok (.aload_n 0, 1) := by decide +kernel
theorem dX10_judge_21 : decode cX10_judge 21 = .ok (.getfield 185, 3) := by decide +kernel
theorem dX10_judge_24 : decode cX10_judge 24 = .ok (.iload_n 1, 1) := by decide +kernel
theorem dX10_judge_25 : decode cX10_judge 25 = .ok (.iaload, 1) := by decide +kernel
theorem dX10_judge_26 : decode cX10_judge 26 = .ok (.ifCond .ge 6, 3) := by decide +kernel
theorem dX10_judge_29 : decode cX10_judge 29 = .ok (.bipush (-11), 2) := by decide +kernel
theorem dX10_judge_31 : decode cX10_judge 31 = .ok (.ireturn, 1) := by decide +kernel
theorem dX10_judge_32 : decode cX10_judge 32 = .ok (.aload_n 0, 1) := by decide +kernel
theorem dX10_judge_33 : decode cX10_judge 33 = .ok (.getfield 185, 3) := by decide +kernel
theorem dX10_judge_36 : decode cX10_judge 36 = .ok (.iload_n 1, 1) := by decide +kernel
theorem dX10_judge_37 : decode cX10_judge 37 = .ok (.iaload, 1) := by decide +kernel
theorem dX10_judge_38 : decode cX10_judge 38 = .ok (.iconst 1, 1) := by decide +kernel
theorem dX10_judge_39 : decode cX10_judge 39 = .ok (.if_icmp .eq 6, 3) := by decide +kernel
theorem dX10_judge_42 : decode cX10_judge 42 = .ok (.bipush (-12), 2) := by decide +kernel
theorem dX10_judge_44 : decode cX10_judge 44 = .ok (.ireturn, 1) := by decide +kernel
theorem dX10_judge_45 : decode cX10_judge 45 = .ok (.iload_n 2, 1) := by decide +kernel
theorem dX10_judge_46 : decode cX10_judge 46 = .ok (.ifCond .lt 18, 3) := by decide +kernel
theorem dX10_judge_49 : decode cX10_judge 49 = .ok (.iload_n 2, 1) := by decide +kernel
theorem dX10_judge_50 : decode cX10_judge 50 = .ok (.aload_n 0, 1) := by decide +kernel
theorem dX10_judge_51 : decode cX10_judge 51 = .ok (.getfield 188, 3) := by decide +kernel
theorem dX10_judge_54 : decode cX10_judge 54 = .ok (.iload_n 1, 1) := by decide +kernel
theorem dX10_judge_55 : decode cX10_judge 55 = .ok (.iaload, 1) := by decide +kernel
theorem dX10_judge_56 : decode cX10_judge 56 = .ok (.aload_n 0, 1) := by decide +kernel
theorem dX10_judge_57 : decode cX10_judge 57 = .ok (.getfield 13, 3) := by decide +kernel
theorem dX10_judge_60 : decode cX10_judge 60 = .ok (.isub, 1) := by decide +kernel
theorem dX10_judge_61 : decode cX10_judge 61 = .ok (.if_icmp .le 6, 3) := by decide +kernel
theorem dX10_judge_64 : decode cX10_judge 64 = .ok (.bipush (-13), 2) := by decide +kernel
theorem dX10_judge_66 : decode cX10_judge 66 = .ok (.ireturn, 1) := by decide +kernel
theorem dX10_judge_67 : decode cX10_judge 67 = .ok (.iconst 0, 1) := by decide +kernel
theorem dX10_judge_68 : decode cX10_judge 68 = .ok (.istore 4, 2) := by decide +kernel
theorem dX10_judge_70 : decode cX10_judge 70 = .ok (.iload 4, 2) := by decide +kernel
theorem dX10_judge_72 : decode cX10_judge 72 = .ok (.aload_n 0, 1) := by decide +kernel
theorem dX10_judge_73 : decode cX10_judge 73 = .ok (.getfield 13, 3) := by decide +kernel
theorem dX10_judge_76 : decode cX10_judge 76 = .ok (.if_icmp .ge 34, 3) := by decide +kernel
theorem dX10_judge_79 : decode cX10_judge 79 = .ok (.aload_n 0, 1) := by decide +kernel
theorem dX10_judge_80 : decode cX10_judge 80 = .ok (.aload_n 0, 1) := by decide +kernel
theorem dX10_judge_81 : decode cX10_judge 81 = .ok (.getfield 191, 3) := by decide +kernel
theorem dX10_judge_84 : decode cX10_judge 84 = .ok (.bipush 60, 2) := by decide +kernel
theorem dX10_judge_86 : decode cX10_judge 86 = .ok (.iload_n 1, 1) := by decide +kernel
theorem dX10_judge_87 : decode cX10_judge 87 = .ok (.imul, 1) := by decide +kernel
theorem dX10_judge_88 : decode cX10_judge 88 = .ok (.iload_n 2, 1) := by decide +kernel
theorem dX10_judge_89 : decode cX10_judge 89 = .ok (.iadd, 1) := by decide +kernel
theorem dX10_judge_90 : decode cX10_judge 90 = .ok (.iload 4, 2) := by decide +kernel
theorem dX10_judge_92 : decode cX10_judge 92 = .ok (.iadd, 1) := by decide +kernel
theorem dX10_judge_93 : decode cX10_judge 93 = .ok (.laload, 1) := by decide +kernel
theorem dX10_judge_94 : decode cX10_judge 94 = .ok (.l2i, 1) := by decide +kernel
theorem dX10_judge_95 : decode cX10_judge 95 = .ok (.invokevirtual 205, 3) := by decide +kernel
theorem dX10_judge_98 : decode cX10_judge 98 = .ok (.ifCond .ne 6, 3) := by decide +kernel
theorem dX10_judge_101 : decode cX10_judge 101 = .ok (.bipush (-3), 2) := by decide +kernel
theorem dX10_judge_103 : decode cX10_judge 103 = .ok (.ireturn, 1) := by decide +kernel
theorem dX10_judge_104 : decode cX10_judge 104 = .ok (.iinc 4 1, 3) := by decide +kernel
theorem dX10_judge_107 : decode cX10_judge 107 = .ok (.goto (-37), 3) := by decide +kernel
theorem dX10_judge_110 : decode cX10_judge 110 = .ok (.aload_n 0, 1) := by decide +kernel
theorem dX10_judge_111 : decode cX10_judge 111 = .ok (.invokevirtual 354, 3) := by decide +kernel
theorem dX10_judge_114 : decode cX10_judge 114 = .ok (.iconst 0, 1) := by decide +kernel
theorem dX10_judge_115 : decode cX10_judge 115 = .ok (.istore 4, 2) := by decide +kernel
theorem dX10_judge_117 : decode cX10_judge 117 = .ok (.iload 4, 2) := by decide +kernel
theorem dX10_judge_119 : decode cX10_judge 119 = .ok (.aload_n 0, 1) := by decide +kernel
theorem dX10_judge_120 : decode cX10_judge 120 = .ok (.getfield 13, 3) := by decide +kernel
theorem dX10_judge_123 : decode cX10_judge 123 = .ok (.if_icmp .ge 31, 3) := by decide +kernel
theorem dX10_judge_126 : decode cX10_judge 126 = .ok (.aload_n 0, 1) := by decide +kernel
theorem dX10_judge_127 : decode cX10_judge 127 = .ok (.getfield 41, 3) := by decide +kernel
theorem dX10_judge_130 : decode cX10_judge 130 = .ok (.iload 4, 2) := by decide +kernel
theorem dX10_judge_132 : decode cX10_judge 132 = .ok (.aload_n 0, 1) := by decide +kernel
theorem dX10_judge_133 : decode cX10_judge 133 = .ok (.getfield 191, 3) := by decide +kernel
theorem dX10_judge_136 : decode cX10_judge 136 = .ok (.bipush 60, 2) := by decide +kernel
theorem dX10_judge_138 : decode cX10_judge 138 = .ok (.iload_n 1, 1) := by decide +kernel
theorem dX10_judge_139 : decode cX10_judge 139 = .ok (.imul, 1) := by decide +kernel
theorem dX10_judge_140 : decode cX10_judge 140 = .ok (.iload_n 2, 1) := by decide +kernel
theorem dX10_judge_141 : decode cX10_judge 141 = .ok (.iadd, 1) := by decide +kernel
theorem dX10_judge_142 : decode cX10_judge 142 = .ok (.iload 4, 2) := by decide +kernel
theorem dX10_judge_144 : decode cX10_judge 144 = .ok (.iadd, 1) := by decide +kernel
theorem dX10_judge_145 : decode cX10_judge 145 = .ok (.laload, 1) := by decide +kernel
theorem dX10_judge_146 : decode cX10_judge 146 = .ok (.l2i, 1) := by decide +kernel
theorem dX10_judge_147 : decode cX10_judge 147 = .ok (.iastore, 1) := by decide +kernel
theorem dX10_judge_148 : decode cX10_judge 148 = .ok (.iinc 4 1, 3) := by decide +kernel
theorem dX10_judge_151 : decode cX10_judge 151 = .ok (.goto (-34), 3) := by decide +kernel
theorem dX10_judge_154 : decode cX10_judge 154 = .ok (.aload_n 0, 1) := by decide +kernel
theorem dX10_judge_155 : decode cX10_judge 155 = .ok (.invokevirtual 357, 3) := by decide +kernel
theorem dX10_judge_158 : decode cX10_judge 158 = .ok (.ifCond .ne 8, 3) := by decide +kernel
theorem dX10_judge_161 : decode cX10_judge 161 = .ok (.bipush (-3), 2) := by decide +kernel
theorem dX10_judge_163 : decode cX10_judge 163 = .ok (.goto 16, 3) := by decide +kernel
theorem dX10_judge_166 : decode cX10_judge 166 = .ok (.aload_n 0, 1) := by decide +kernel
theorem dX10_judge_167 : decode cX10_judge 167 = .ok (.iload_n 3, 1) := by decide +kernel
theorem dX10_judge_168 : decode cX10_judge 168 = .ok (.invokevirtual 335, 3) := by decide +kernel
theorem dX10_judge_171 : decode cX10_judge 171 = .ok (.ifCond .eq 7, 3) := by decide +kernel
theorem dX10_judge_174 : decode cX10_judge 174 = .ok (.iconst 1, 1) := by decide +kernel
theorem dX10_judge_175 : decode cX10_judge 175 = .ok (.goto 4, 3) := by decide +kernel
theorem dX10_judge_178 : decode cX10_judge 178 = .ok (.iconst 0, 1) := by decide +kernel
theorem dX10_judge_179 : decode cX10_judge 179 = .ok (.istore 4, 2) := by decide +kernel
theorem dX10_judge_181 : decode cX10_judge 181 = .ok (.aload_n 0, 1) := by decide +kernel
theorem dX10_judge_182 : decode cX10_judge 182 = .ok (.invokevirtual 360, 3) := by decide +kernel
theorem dX10_judge_185 : decode cX10_judge 185 = .ok (.iload 4, 2) := by decide +kernel
theorem dX10_judge_187 : decode cX10_judge 187 = .ok (.ireturn, 1) := by decide +kernel
theorem dX10_rowsOf_0 : decode cX10_rowsOf 0 = .ok (.iconst 1, 1) := by decide +kernel
theorem dX10_rowsOf_1 : decode cX10_rowsOf 1 = .ok (.istore_n 1, 1) := by decide +kernel
theorem dX10_rowsOf_2 : decode cX10_rowsOf 2 = .ok (.iconst 0, 1) := by decide +kernel
theorem dX10_rowsOf_3 : decode cX10_rowsOf 3 = .ok (.istore_n 2, 1) := by decide +kernel
theorem dX10_rowsOf_4 : decode cX10_rowsOf 4 = .ok (.iload_n 2, 1) := by decide +kernel
theorem dX10_rowsOf_5 : decode cX10_rowsOf 5 = .ok (.aload_n 0, 1) := by decide +kernel
theorem dX10_rowsOf_6 : decode cX10_rowsOf 6 = .ok (.getfield 13, 3) := by decide +kernel
theorem dX10_rowsOf_9 : decode cX10_rowsOf 9 = .ok (.if_icmp .ge 16, 3) := by decide +kernel
theorem dX10_rowsOf_12 : decode cX10_rowsOf 12 = .ok (.iload_n 1, 1) := by decide +kernel
theorem dX10_rowsOf_13 : decode cX10_rowsOf 13 = .ok (.aload_n 0, 1) := by decide +kernel
theorem dX10_rowsOf_14 : decode cX10_rowsOf 14 = .ok (.getfield 7, 3) := by decide +kernel
theorem dX10_rowsOf_17 : decode cX10_rowsOf 17 = .ok (.imul, 1) := by decide +kernel
theorem dX10_rowsOf_18 : decode cX10_rowsOf 18 = .ok (.istore_n 1, 1) := by decide +kernel
theorem dX10_rowsOf_19 : decode cX10_rowsOf 19 = .ok (.iinc 2 1, 3) := by decide +kernel
theorem dX10_rowsOf_22 : decode cX10_rowsOf 22 = .ok (.goto (-18), 3) := by decide +kernel
theorem dX10_rowsOf_25 : decode cX10_rowsOf 25 = .ok (.iload_n 1, 1) := by decide +kernel
theorem dX10_rowsOf_26 : decode cX10_rowsOf 26 = .ok (.ireturn, 1) := by decide +kernel
theorem dX10_layOut_0 : decode cX10_layOut 0 = .ok (.iload_n 1, 1) := by decide +kernel
theorem dX10_layOut_1 : decode cX10_layOut 1 = .ok (.istore_n 2, 1) := by decide +kernel
theorem dX10_layOut_2 : decode cX10_layOut 2 = .ok (.aload_n 0, 1) := by decide +kernel
theorem dX10_layOut_3 : decode cX10_layOut 3 = .ok (.getfield 13, 3) := by decide +kernel
theorem dX10_layOut_6 : decode cX10_layOut 6 = .ok (.iconst 1, 1) := by decide +kernel
theorem dX10_layOut_7 : decode cX10_layOut 7 = .ok (.isub, 1) := by decide +kernel
theorem dX10_layOut_8 : decode cX10_layOut 8 = .ok (.istore_n 3, 1) := by decide +kernel
theorem dX10_layOut_9 : decode cX10_layOut 9 = .ok (.iload_n 3, 1) := by decide +kernel
theorem dX10_layOut_10 : decode cX10_layOut 10 = .ok (.ifCond .lt 28, 3) := by decide +kernel
theorem dX10_layOut_13 : decode cX10_layOut 13 = .ok (.aload_n 0, 1) := by decide +kernel
theorem dX10_layOut_14 : decode cX10_layOut 14 = .ok (.getfield 41, 3) := by decide +kernel
theorem dX10_layOut_17 : decode cX10_layOut 17 = .ok (.iload_n 3, 1) := by decide +kernel
theorem dX10_layOut_18 : decode cX10_layOut 18 = .ok (.iload_n 2, 1) := by decide +kernel
theorem dX10_layOut_19 : decode cX10_layOut 19 = .ok (.aload_n 0, 1) := by decide +kernel
theorem dX10_layOut_20 : decode cX10_layOut 20 = .ok (.getfield 7, 3) := by decide +kernel
theorem dX10_layOut_23 : decode cX10_layOut 23 = .ok (.irem, 1) := by decide +kernel
theorem dX10_layOut_24 : decode cX10_layOut 24 = .ok (.iastore, 1) := by decide +kernel
theorem dX10_layOut_25 : decode cX10_layOut 25 = .ok (.iload_n 2, 1) := by decide +kernel
theorem dX10_layOut_26 : decode cX10_layOut 26 = .ok (.aload_n 0, 1) := by decide +kernel
theorem dX10_layOut_27 : decode cX10_layOut 27 = .ok (.getfield 7, 3) := by decide +kernel
theorem dX10_layOut_30 : decode cX10_layOut 30 = .ok (.idiv, 1) := by decide +kernel
theorem dX10_layOut_31 : decode cX10_layOut 31 = .ok (.istore_n 2, 1) := by decide +kernel
theorem dX10_layOut_32 : decode cX10_layOut 32 = .ok (.iinc 3 (-1), 3) := by decide +kernel
theorem dX10_layOut_35 : decode cX10_layOut 35 = .ok (.goto (-26), 3) := by decide +kernel
theorem dX10_layOut_38 : decode cX10_layOut 38 = .ok (.return_, 1) := by decide +kernel
theorem dX10_all_0 : decode cX10_all 0 = .ok (.aload_n 0, 1) := by decide +kernel
theorem dX10_all_1 : decode cX10_all 1 = .ok (.iload_n 1, 1) := by decide +kernel
theorem dX10_all_2 : decode cX10_all 2 = .ok (.iconst 1, 1) := by decide +kernel
theorem dX10_all_3 : decode cX10_all 3 = .ok (.iconst 5, 1) := by decide +kernel
theorem dX10_all_4 : decode cX10_all 4 = .ok (.invokevirtual 197, 3) := by decide +kernel
theorem dX10_all_7 : decode cX10_all 7 = .ok (.ifCond .eq 16, 3) := by decide +kernel
theorem dX10_all_10 : decode cX10_all 10 = .ok (.aload_n 0, 1) := by decide +kernel
theorem dX10_all_11 : decode cX10_all 11 = .ok (.iload_n 3, 1) := by decide +kernel
theorem dX10_all_12 : decode cX10_all 12 = .ok (.invokevirtual 216, 3) := by decide +kernel
theorem dX10_all_15 : decode cX10_all 15 = .ok (.ifCond .eq 8, 3) := by decide +kernel
theorem dX10_all_18 : decode cX10_all 18 = .ok (.iload_n 2, 1) := by decide +kernel
theorem dX10_all_19 : decode cX10_all 19 = .ok (.iconst (-1), 1) := by decide +kernel
theorem dX10_all_20 : decode cX10_all 20 = .ok (.if_icmp .ge 5, 3) := by decide +kernel
theorem dX10_all_23 : decode cX10_all 23 = .ok (.iconst (-1), 1) := by decide +kernel
theorem dX10_all_24 : decode cX10_all 24 = .ok (.ireturn, 1) := by decide +kernel
theorem dX10_all_25 : decode cX10_all 25 = .ok (.aload_n 0, 1) := by decide +kernel
theorem dX10_all_26 : decode cX10_all 26 = .ok (.getfield 13, 3) := by decide +kernel
theorem dX10_all_29 : decode cX10_all 29 = .ok (.iconst 5, 1) := by decide +kernel
theorem dX10_all_30 : decode cX10_all 30 = .ok (.if_icmp .gt 11, 3) := by decide +kernel
theorem dX10_all_33 : decode cX10_all 33 = .ok (.aload_n 0, 1) := by decide +kernel
theorem dX10_all_34 : decode cX10_all 34 = .ok (.getfield 7, 3) := by decide +kernel
theorem dX10_all_37 : decode cX10_all 37 = .ok (.iconst 3, 1) := by decide +kernel
theorem dX10_all_38 : decode cX10_all 38 = .ok (.if_icmp .le 6, 3) := by decide +kernel
theorem dX10_all_41 : decode cX10_all 41 = .ok (.bipush (-9), 2) := by decide +kernel
theorem dX10_all_43 : decode cX10_all 43 = .ok (.ireturn, 1) := by decide +kernel
theorem dX10_all_44 : decode cX10_all 44 = .ok (.aload_n 0, 1) := by decide +kernel
theorem dX10_all_45 : decode cX10_all 45 = .ok (.invokevirtual 354, 3) := by decide +kernel
theorem dX10_all_48 : decode cX10_all 48 = .ok (.iconst 0, 1) := by decide +kernel
theorem dX10_all_49 : decode cX10_all 49 = .ok (.istore 4, 2) := by decide +kernel
theorem dX10_all_51 : decode cX10_all 51 = .ok (.iconst (-1), 1) := by decide +kernel
theorem dX10_all_52 : decode cX10_all 52 = .ok (.istore 5, 2) := by decide +kernel
theorem dX10_all_54 : decode cX10_all 54 = .ok (.iconst 0, 1) := by decide +kernel
theorem dX10_all_55 : decode cX10_all 55 = .ok (.istore 6, 2) := by decide +kernel
theorem dX10_all_57 : decode cX10_all 57 = .ok (.iload 6, 2) := by decide +kernel
theorem dX10_all_59 : decode cX10_all 59 = .ok (.aload_n 0, 1) := by decide +kernel
theorem dX10_all_60 : decode cX10_all 60 = .ok (.invokevirtual 363, 3) := by decide +kernel
theorem dX10_all_63 : decode cX10_all 63 = .ok (.if_icmp .ge 56, 3) := by decide +kernel
theorem dX10_all_66 : decode cX10_all 66 = .ok (.iload 5, 2) := by decide +kernel
theorem dX10_all_68 : decode cX10_all 68 = .ok (.iconst (-1), 1) := by decide +kernel
theorem dX10_all_69 : decode cX10_all 69 = .ok (.if_icmp .ne 50, 3) := by decide +kernel
theorem dX10_all_72 : decode cX10_all 72 = .ok (.aload_n 0, 1) := by decide +kernel
theorem dX10_all_73 : decode cX10_all 73 = .ok (.iload 6, 2) := by decide +kernel
theorem dX10_all_75 : decode cX10_all 75 = .ok (.invokevirtual 366, 3) := by decide +kernel
theorem dX10_all_78 : decode cX10_all 78 = .ok (.aload_n 0, 1) := by decide +kernel
theorem dX10_all_79 : decode cX10_all 79 = .ok (.invokevirtual 357, 3) := by decide +kernel
theorem dX10_all_82 : decode cX10_all 82 = .ok (.ifCond .eq 31, 3) := by decide +kernel
theorem dX10_all_85 : decode cX10_all 85 = .ok (.aload_n 0, 1) := by decide +kernel
theorem dX10_all_86 : decode cX10_all 86 = .ok (.iload_n 1, 1) := by decide +kernel
theorem dX10_all_87 : decode cX10_all 87 = .ok (.invokevirtual 335, 3) := by decide +kernel
theorem dX10_all_90 : decode cX10_all 90 = .ok (.ifCond .ne 6, 3) := by decide +kernel
theorem dX10_all_93 : decode cX10_all 93 = .ok (.goto 20, 3) := by decide +kernel
theorem dX10_all_96 : decode cX10_all 96 = .ok (.iload 4, 2) := by decide +kernel
theorem dX10_all_98 : decode cX10_all 98 = .ok (.iload_n 2, 1) := by decide +kernel
theorem dX10_all_99 : decode cX10_all 99 = .ok (.if_icmp .ne 11, 3) := by decide +kernel
theorem dX10_all_102 : decode cX10_all 102 = .ok (.aload_n 0, 1) := by decide +kernel
theorem dX10_all_103 : decode cX10_all 103 = .ok (.getfield 41, 3) := by decide +kernel
theorem dX10_all_106 : decode cX10_all 106 = .ok (.iload_n 3, 1) := by decide +kernel
theorem dX10_all_107 : decode cX10_all 107 = .ok (.iaload, 1) := by decide +kernel
theorem dX10_all_108 : decode cX10_all 108 = .ok (.istore 5, 2) := by decide +kernel
theorem dX10_all_110 : decode cX10_all 110 = .ok (.iinc 4 1, 3) := by decide +kernel
theorem dX10_all_113 : decode cX10_all 113 = .ok (.iinc 6 1, 3) := by decide +kernel
theorem dX10_all_116 : decode cX10_all 116 = .ok (.goto (-59), 3) := by decide +kernel
theorem dX10_all_119 : decode cX10_all 119 = .ok (.aload_n 0, 1) := by decide +kernel
theorem dX10_all_120 : decode cX10_all 120 = .ok (.invokevirtual 360, 3) := by decide +kernel
theorem dX10_all_123 : decode cX10_all 123 = .ok (.iload_n 2, 1) := by decide +kernel
theorem dX10_all_124 : decode cX10_all 124 = .ok (.iconst (-1), 1) := by decide +kernel
theorem dX10_all_125 : decode cX10_all 125 = .ok (.if_icmp .ne 8, 3) := by decide +kernel
theorem dX10_all_128 : decode cX10_all 128 = .ok (.iload 4, 2) := by decide +kernel
theorem dX10_all_130 : decode cX10_all 130 = .ok (.goto 5, 3) := by decide +kernel
theorem dX10_all_133 : decode cX10_all 133 = .ok (.iload 5, 2) := by decide +kernel
theorem dX10_all_135 : decode cX10_all 135 = .ok (.ireturn, 1) := by decide +kernel
theorem dX10_good_0 : decode cX10_good 0 = .ok (.aload_n 0, 1) := by decide +kernel
theorem dX10_good_1 : decode cX10_good 1 = .ok (.iload_n 1, 1) := by decide +kernel
theorem dX10_good_2 : decode cX10_good 2 = .ok (.invokevirtual 216, 3) := by decide +kernel
theorem dX10_good_5 : decode cX10_good 5 = .ok (.ifCond .ne 5, 3) := by decide +kernel
theorem dX10_good_8 : decode cX10_good 8 = .ok (.iconst (-1), 1) := by decide +kernel
theorem dX10_good_9 : decode cX10_good 9 = .ok (.ireturn, 1) := by decide +kernel
theorem dX10_good_10 : decode cX10_good 10 = .ok (.aload_n 0, 1) := by decide +kernel
theorem dX10_good_11 : decode cX10_good 11 = .ok (.getfield 13, 3) := by decide +kernel
theorem dX10_good_14 : decode cX10_good 14 = .ok (.iconst 5, 1) := by decide +kernel
theorem dX10_good_15 : decode cX10_good 15 = .ok (.if_icmp .gt 11, 3) := by decide +kernel
theorem dX10_good_18 : decode cX10_good 18 = .ok (.aload_n 0, 1) := by decide +kernel
theorem dX10_good_19 : decode cX10_good 19 = .ok (.getfield 7, 3) := by decide +kernel
theorem dX10_good_22 : decode cX10_good 22 = .ok (.iconst 3, 1) := by decide +kernel
theorem dX10_good_23 : decode cX10_good 23 = .ok (.if_icmp .le 6, 3) := by decide +kernel
theorem dX10_good_26 : decode cX10_good 26 = .ok (.bipush (-9), 2) := by decide +kernel
theorem dX10_good_28 : decode cX10_good 28 = .ok (.ireturn, 1) := by decide +kernel
theorem dX10_good_29 : decode cX10_good 29 = .ok (.aload_n 0, 1) := by decide +kernel
theorem dX10_good_30 : decode cX10_good 30 = .ok (.invokevirtual 354, 3) := by decide +kernel
theorem dX10_good_33 : decode cX10_good 33 = .ok (.iconst (-1), 1) := by decide +kernel
theorem dX10_good_34 : decode cX10_good 34 = .ok (.istore_n 2, 1) := by decide +kernel
theorem dX10_good_35 : decode cX10_good 35 = .ok (.lconst 0, 1) := by decide +kernel
theorem dX10_good_36 : decode cX10_good 36 = .ok (.lstore_n 3, 1) := by decide +kernel
theorem dX10_good_37 : decode cX10_good 37 = .ok (.iconst 0, 1) := by decide +kernel
theorem dX10_good_38 : decode cX10_good 38 = .ok (.istore 5, 2) := by decide +kernel
theorem dX10_good_40 : decode cX10_good 40 = .ok (.iload 5, 2) := by decide +kernel
theorem dX10_good_42 : decode cX10_good 42 = .ok (.aload_n 0, 1) := by decide +kernel
theorem dX10_good_43 : decode cX10_good 43 = .ok (.invokevirtual 363, 3) := by decide +kernel
theorem dX10_good_46 : decode cX10_good 46 = .ok (.if_icmp .ge 88, 3) := by decide +kernel
theorem dX10_good_49 : decode cX10_good 49 = .ok (.aload_n 0, 1) := by decide +kernel
theorem dX10_good_50 : decode cX10_good 50 = .ok (.iload 5, 2) := by decide +kernel
theorem dX10_good_52 : decode cX10_good 52 = .ok (.invokevirtual 366, 3) := by decide +kernel
theorem dX10_good_55 : decode cX10_good 55 = .ok (.aload_n 0, 1) := by decide +kernel
theorem dX10_good_56 : decode cX10_good 56 = .ok (.invokevirtual 357, 3) := by decide +kernel
theorem dX10_good_59 : decode cX10_good 59 = .ok (.ifCond .ne 6, 3) := by decide +kernel
theorem dX10_good_62 : decode cX10_good 62 = .ok (.goto 66, 3) := by decide +kernel
theorem dX10_good_65 : decode cX10_good 65 = .ok (.lconst 0, 1) := by decide +kernel
theorem dX10_good_66 : decode cX10_good 66 = .ok (.lstore 6, 2) := by decide +kernel
theorem dX10_good_68 : decode cX10_good 68 = .ok (.iconst 0, 1) := by decide +kernel
theorem dX10_good_69 : decode cX10_good 69 = .ok (.istore 8, 2) := by decide +kernel
theorem dX10_good_71 : decode cX10_good 71 = .ok (.iload 8, 2) := by decide +kernel
theorem dX10_good_73 : decode cX10_good 73 = .ok (.aload_n 0, 1) := by decide +kernel
theorem dX10_good_74 : decode cX10_good 74 = .ok (.getfield 13, 3) := by decide +kernel
theorem dX10_good_77 : decode cX10_good 77 = .ok (.if_icmp .ge 27, 3) := by decide +kernel
theorem dX10_good_80 : decode cX10_good 80 = .ok (.lload 6, 2) := by decide +kernel
theorem dX10_good_82 : decode cX10_good 82 = .ok (.aload_n 0, 1) := by decide +kernel
theorem dX10_good_83 : decode cX10_good 83 = .ok (.iload 8, 2) := by decide +kernel
theorem dX10_good_85 : decode cX10_good 85 = .ok (.aload_n 0, 1) := by decide +kernel
theorem dX10_good_86 : decode cX10_good 86 = .ok (.getfield 41, 3) := by decide +kernel
theorem dX10_good_89 : decode cX10_good 89 = .ok (.iload 8, 2) := by decide +kernel
theorem dX10_good_91 : decode cX10_good 91 = .ok (.iaload, 1) := by decide +kernel
theorem dX10_good_92 : decode cX10_good 92 = .ok (.invokevirtual 225, 3) := by decide +kernel
theorem dX10_good_95 : decode cX10_good 95 = .ok (.ladd, 1) := by decide +kernel
theorem dX10_good_96 : decode cX10_good 96 = .ok (.lstore 6, 2) := by decide +kernel
theorem dX10_good_98 : decode cX10_good 98 = .ok (.iinc 8 1, 3) := by decide +kernel
theorem dX10_good_101 : decode cX10_good 101 = .ok (.goto (-30), 3) := by decide +kernel
theorem dX10_good_104 : decode cX10_good 104 = .ok (.iload_n 2, 1) := by decide +kernel
theorem dX10_good_105 : decode cX10_good 105 = .ok (.ifCond .lt 13, 3) := by decide +kernel
theorem dX10_good_108 : decode cX10_good 108 = .ok (.lload 6, 2) := by decide +kernel
theorem dX10_good_110 : decode cX10_good 110 = .ok (.lload_n 3, 1) := by decide +kernel
theorem dX10_good_111 : decode cX10_good 111 = .ok (.lcmp, 1) := by decide +kernel
theorem dX10_good_112 : decode cX10_good 112 = .ok (.ifCond .gt 6, 3) := by decide +kernel
theorem dX10_good_115 : decode cX10_good 115 = .ok (.goto 13, 3) := by decide +kernel
theorem dX10_good_118 : decode cX10_good 118 = .ok (.aload_n 0, 1) := by decide +kernel
theorem dX10_good_119 : decode cX10_good 119 = .ok (.getfield 41, 3) := by decide +kernel
theorem dX10_good_122 : decode cX10_good 122 = .ok (.iload_n 1, 1) := by decide +kernel
theorem dX10_good_123 : decode cX10_good 123 = .ok (.iaload, 1) := by decide +kernel
theorem dX10_good_124 : decode cX10_good 124 = .ok (.istore_n 2, 1) := by decide +kernel
theorem dX10_good_125 : decode cX10_good 125 = .ok (.lload 6, 2) := by decide +kernel
theorem dX10_good_127 : decode cX10_good 127 = .ok (.lstore_n 3, 1) := by decide +kernel
theorem dX10_good_128 : decode cX10_good 128 = .ok (.iinc 5 1, 3) := by decide +kernel
theorem dX10_good_131 : decode cX10_good 131 = .ok (.goto (-91), 3) := by decide +kernel
theorem dX10_good_134 : decode cX10_good 134 = .ok (.aload_n 0, 1) := by decide +kernel
theorem dX10_good_135 : decode cX10_good 135 = .ok (.invokevirtual 360, 3) := by decide +kernel
theorem dX10_good_138 : decode cX10_good 138 = .ok (.iload_n 2, 1) := by decide +kernel
theorem dX10_good_139 : decode cX10_good 139 = .ok (.ireturn, 1) := by decide +kernel
theorem dX10_isWanted_0 : decode cX10_isWanted 0 = .ok (.iconst 0, 1) := by decide +kernel
theorem dX10_isWanted_1 : decode cX10_isWanted 1 = .ok (.istore_n 2, 1) := by decide +kernel
theorem dX10_isWanted_2 : decode cX10_isWanted 2 = .ok (.iconst 0, 1) := by decide +kernel
theorem dX10_isWanted_3 : decode cX10_isWanted 3 = .ok (.istore_n 3, 1) := by decide +kernel
theorem dX10_isWanted_4 : decode cX10_isWanted 4 = .ok (.iload_n 3, 1) := by decide +kernel
theorem dX10_isWanted_5 : decode cX10_isWanted 5 = .ok (.aload_n 0, 1) := by decide +kernel
theorem dX10_isWanted_6 : decode cX10_isWanted 6 = .ok (.getfield 13, 3) := by decide +kernel
theorem dX10_isWanted_9 : decode cX10_isWanted 9 = .ok (.if_icmp .ge 57, 3) := by decide +kernel
theorem dX10_isWanted_12 : decode cX10_isWanted 12 = .ok (.iload_n 2, 1) := by decide +kernel
theorem dX10_isWanted_13 : decode cX10_isWanted 13 = .ok (.aload_n 0, 1) := by decide +kernel
theorem dX10_isWanted_14 : decode cX10_isWanted 14 = .ok (.getfield 41, 3) := by decide +kernel
theorem dX10_isWanted_17 : decode cX10_isWanted 17 = .ok (.iload_n 3, 1) := by decide +kernel
theorem dX10_isWanted_18 : decode cX10_isWanted 18 = .ok (.iaload, 1) := by decide +kernel
theorem dX10_isWanted_19 : decode cX10_isWanted 19 = .ok (.iload_n 1, 1) := by decide +kernel
theorem dX10_isWanted_20 : decode cX10_isWanted 20 = .ok (.if_icmp .eq 33, 3) := by decide +kernel
theorem dX10_isWanted_23 : decode cX10_isWanted 23 = .ok (.aload_n 0, 1) := by decide +kernel
theorem dX10_isWanted_24 : decode cX10_isWanted 24 = .ok (.iload_n 3, 1) := by decide +kernel
theorem dX10_isWanted_25 : decode cX10_isWanted 25 = .ok (.iload_n 1, 1) := by decide +kernel
theorem dX10_isWanted_26 : decode cX10_isWanted 26 = .ok (.invokevirtual 305, 3) := by decide +kernel
theorem dX10_isWanted_29 : decode cX10_isWanted 29 = .ok (.ifCond .ne 28, 3) := by decide +kernel
theorem dX10_isWanted_32 : decode cX10_isWanted 32 = .ok (.aload_n 0, 1) := by decide +kernel
theorem dX10_isWanted_33 : decode cX10_isWanted 33 = .ok (.iload_n 3, 1) := by decide +kernel
theorem dX10_isWanted_34 : decode cX10_isWanted 34 = .ok (.iload_n 1, 1) := by decide +kernel
theorem dX10_isWanted_35 : decode cX10_isWanted 35 = .ok (.invokevirtual 225, 3) := by decide +kernel
theorem dX10_isWanted_38 : decode cX10_isWanted 38 = .ok (.aload_n 0, 1) := by decide +kernel
theorem dX10_isWanted_39 : decode cX10_isWanted 39 = .ok (.iload_n 3, 1) := by decide +kernel
theorem dX10_isWanted_40 : decode cX10_isWanted 40 = .ok (.aload_n 0, 1) := by decide +kernel
theorem dX10_isWanted_41 : decode cX10_isWanted 41 = .ok (.getfield 41, 3) := by decide +kernel
theorem dX10_isWanted_44 : decode cX10_isWanted 44 = .ok (.iload_n 3, 1) := by decide +kernel
theorem dX10_isWanted_45 : decode cX10_isWanted 45 = .ok (.iaload, 1) := by decide +kernel
theorem dX10_isWanted_46 : decode cX10_isWanted 46 = .ok (.invokevirtual 225, 3) := by decide +kernel
theorem dX10_isWanted_49 : decode cX10_isWanted 49 = .ok (.lcmp, 1) := by decide +kernel
theorem dX10_isWanted_50 : decode cX10_isWanted 50 = .ok (.ifCond .le 7, 3) := by decide +kernel
theorem dX10_isWanted_53 : decode cX10_isWanted 53 = .ok (.iconst 1, 1) := by decide +kernel
theorem dX10_isWanted_54 : decode cX10_isWanted 54 = .ok (.goto 4, 3) := by decide +kernel
theorem dX10_isWanted_57 : decode cX10_isWanted 57 = .ok (.iconst 0, 1) := by decide +kernel
theorem dX10_isWanted_58 : decode cX10_isWanted 58 = .ok (.iadd, 1) := by decide +kernel
theorem dX10_isWanted_59 : decode cX10_isWanted 59 = .ok (.istore_n 2, 1) := by decide +kernel
theorem dX10_isWanted_60 : decode cX10_isWanted 60 = .ok (.iinc 3 1, 3) := by decide +kernel
theorem dX10_isWanted_63 : decode cX10_isWanted 63 = .ok (.goto (-59), 3) := by decide +kernel
theorem dX10_isWanted_66 : decode cX10_isWanted 66 = .ok (.iload_n 2, 1) := by decide +kernel
theorem dX10_isWanted_67 : decode cX10_isWanted 67 = .ok (.aload_n 0, 1) := by decide +kernel
theorem dX10_isWanted_68 : decode cX10_isWanted 68 = .ok (.getfield 19, 3) := by decide +kernel
theorem dX10_isWanted_71 : decode cX10_isWanted 71 = .ok (.iload_n 1, 1) := by decide +kernel
theorem dX10_isWanted_72 : decode cX10_isWanted 72 = .ok (.iaload, 1) := by decide +kernel
theorem dX10_isWanted_73 : decode cX10_isWanted 73 = .ok (.if_icmp .le 7, 3) := by decide +kernel
theorem dX10_isWanted_76 : decode cX10_isWanted 76 = .ok (.iconst 1, 1) := by decide +kernel
theorem dX10_isWanted_77 : decode cX10_isWanted 77 = .ok (.goto 4, 3) := by decide +kernel
theorem dX10_isWanted_80 : decode cX10_isWanted 80 = .ok (.iconst 0, 1) := by decide +kernel
theorem dX10_isWanted_81 : decode cX10_isWanted 81 = .ok (.ireturn, 1) := by decide +kernel
theorem dX10_rise_0 : decode cX10_rise 0 = .ok (.iconst 0, 1) := by decide +kernel
theorem dX10_rise_1 : decode cX10_rise 1 = .ok (.istore_n 1, 1) := by decide +kernel
theorem dX10_rise_2 : decode cX10_rise 2 = .ok (.iload_n 1, 1) := by decide +kernel
theorem dX10_rise_3 : decode cX10_rise 3 = .ok (.iconst 4, 1) := by decide +kernel
theorem dX10_rise_4 : decode cX10_rise 4 = .ok (.if_icmp .ge 16, 3) := by decide +kernel
theorem dX10_rise_7 : decode cX10_rise 7 = .ok (.aload_n 0, 1) := by decide +kernel
theorem dX10_rise_8 : decode cX10_rise 8 = .ok (.getfield 26, 3) := by decide +kernel
theorem dX10_rise_11 : decode cX10_rise 11 = .ok (.iload_n 1, 1) := by decide +kernel
theorem dX10_rise_12 : decode cX10_rise 12 = .ok (.iconst 0, 1) := by decide +kernel
theorem dX10_rise_13 : decode cX10_rise 13 = .ok (.iastore, 1) := by decide +kernel
theorem dX10_rise_14 : decode cX10_rise 14 = .ok (.iinc 1 1, 3) := by decide +kernel
theorem dX10_rise_17 : decode cX10_rise 17 = .ok (.goto (-15), 3) := by decide +kernel
theorem dX10_rise_20 : decode cX10_rise 20 = .ok (.iconst 0, 1) := by decide +kernel
theorem dX10_rise_21 : decode cX10_rise 21 = .ok (.istore_n 1, 1) := by decide +kernel
theorem dX10_rise_22 : decode cX10_rise 22 = .ok (.iload_n 1, 1) := by decide +kernel
theorem dX10_rise_23 : decode cX10_rise 23 = .ok (.sipush 200, 3) := by decide +kernel
theorem dX10_rise_26 : decode cX10_rise 26 = .ok (.if_icmp .ge 53, 3) := by decide +kernel
theorem dX10_rise_29 : decode cX10_rise 29 = .ok (.iconst 0, 1) := by decide +kernel
theorem dX10_rise_30 : decode cX10_rise 30 = .ok (.istore_n 2, 1) := by decide +kernel
theorem dX10_rise_31 : decode cX10_rise 31 = .ok (.iload_n 2, 1) := by decide +kernel
theorem dX10_rise_32 : decode cX10_rise 32 = .ok (.aload_n 0, 1) := by decide +kernel
theorem dX10_rise_33 : decode cX10_rise 33 = .ok (.getfield 7, 3) := by decide +kernel
theorem dX10_rise_36 : decode cX10_rise 36 = .ok (.if_icmp .ge 17, 3) := by decide +kernel
theorem dX10_rise_39 : decode cX10_rise 39 = .ok (.aload_n 0, 1) := by decide +kernel
theorem dX10_rise_40 : decode cX10_rise 40 = .ok (.iload_n 2, 1) := by decide +kernel
theorem dX10_rise_41 : decode cX10_rise 41 = .ok (.invokevirtual 369, 3) := by decide +kernel
theorem dX10_rise_44 : decode cX10_rise 44 = .ok (.ifCond .ne 9, 3) := by decide +kernel
theorem dX10_rise_47 : decode cX10_rise 47 = .ok (.iinc 2 1, 3) := by decide +kernel
theorem dX10_rise_50 : decode cX10_rise 50 = .ok (.goto (-19), 3) := by decide +kernel
theorem dX10_rise_53 : decode cX10_rise 53 = .ok (.iload_n 2, 1) := by decide +kernel
theorem dX10_rise_54 : decode cX10_rise 54 = .ok (.aload_n 0, 1) := by decide +kernel
theorem dX10_rise_55 : decode cX10_rise 55 = .ok (.getfield 7, 3) := by decide +kernel
theorem dX10_rise_58 : decode cX10_rise 58 = .ok (.if_icmp .ne 5, 3) := by decide +kernel
theorem dX10_rise_61 : decode cX10_rise 61 = .ok (.iload_n 1, 1) := by decide +kernel
theorem dX10_rise_62 : decode cX10_rise 62 = .ok (.ireturn, 1) := by decide +kernel
theorem dX10_rise_63 : decode cX10_rise 63 = .ok (.aload_n 0, 1) := by decide +kernel
theorem dX10_rise_64 : decode cX10_rise 64 = .ok (.getfield 26, 3) := by decide +kernel
theorem dX10_rise_67 : decode cX10_rise 67 = .ok (.iload_n 2, 1) := by decide +kernel
theorem dX10_rise_68 : decode cX10_rise 68 = .ok (.dup2, 1) := by decide +kernel
theorem dX10_rise_69 : decode cX10_rise 69 = .ok (.iaload, 1) := by decide +kernel
theorem dX10_rise_70 : decode cX10_rise 70 = .ok (.iconst 1, 1) := by decide +kernel
theorem dX10_rise_71 : decode cX10_rise 71 = .ok (.iadd, 1) := by decide +kernel
theorem dX10_rise_72 : decode cX10_rise 72 = .ok (.iastore, 1) := by decide +kernel
theorem dX10_rise_73 : decode cX10_rise 73 = .ok (.iinc 1 1, 3) := by decide +kernel
theorem dX10_rise_76 : decode cX10_rise 76 = .ok (.goto (-54), 3) := by decide +kernel
theorem dX10_rise_79 : decode cX10_rise 79 = .ok (.sipush 200, 3) := by decide +kernel
theorem dX10_rise_82 : decode cX10_rise 82 = .ok (.ireturn, 1) := by decide +kernel
theorem dX10_pairs_0 : decode cX10_pairs 0 = .ok (.iconst 0, 1) := by decide +kernel
theorem dX10_pairs_1 : decode cX10_pairs 1 = .ok (.istore_n 1, 1) := by decide +kernel
theorem dX10_pairs_2 : decode cX10_pairs 2 = .ok (.iconst 0, 1) := by decide +kernel
theorem dX10_pairs_3 : decode cX10_pairs 3 = .ok (.istore_n 2, 1) := by decide +kernel
theorem dX10_pairs_4 : decode cX10_pairs 4 = .ok (.iload_n 2, 1) := by decide +kernel
theorem dX10_pairs_5 : decode cX10_pairs 5 = .ok (.aload_n 0, 1) := by decide +kernel
theorem dX10_pairs_6 : decode cX10_pairs 6 = .ok (.getfield 13, 3) := by decide +kernel
theorem dX10_pairs_9 : decode cX10_pairs 9 = .ok (.if_icmp .ge 60, 3) := by decide +kernel
theorem dX10_pairs_12 : decode cX10_pairs 12 = .ok (.iconst 0, 1) := by decide +kernel
theorem dX10_pairs_13 : decode cX10_pairs 13 = .ok (.istore_n 3, 1) := by decide +kernel
theorem dX10_pairs_14 : decode cX10_pairs 14 = .ok (.iload_n 3, 1) := by decide +kernel
theorem dX10_pairs_15 : decode cX10_pairs 15 = .ok (.iload_n 2, 1) := by decide +kernel
theorem dX10_pairs_16 : decode cX10_pairs 16 = .ok (.if_icmp .ge 47, 3) := by decide +kernel
theorem dX10_pairs_19 : decode cX10_pairs 19 = .ok (.iload_n 1, 1) := by decide +kernel
theorem dX10_pairs_20 : decode cX10_pairs 20 = .ok (.aload_n 0, 1) := by decide +kernel
theorem dX10_pairs_21 : decode cX10_pairs 21 = .ok (.getfield 41, 3) := by decide +kernel
theorem dX10_pairs_24 : decode cX10_pairs 24 = .ok (.iload_n 2, 1) := by decide +kernel
theorem dX10_pairs_25 : decode cX10_pairs 25 = .ok (.iaload, 1) := by decide +kernel
theorem dX10_pairs_26 : decode cX10_pairs 26 = .ok (.aload_n 0, 1) := by decide +kernel
theorem dX10_pairs_27 : decode cX10_pairs 27 = .ok (.getfield 41, 3) := by decide +kernel
theorem dX10_pairs_30 : decode cX10_pairs 30 = .ok (.iload_n 3, 1) := by decide +kernel
theorem dX10_pairs_31 : decode cX10_pairs 31 = .ok (.iaload, 1) := by decide +kernel
theorem dX10_pairs_32 : decode cX10_pairs 32 = .ok (.if_icmp .ne 22, 3) := by decide +kernel
theorem dX10_pairs_35 : decode cX10_pairs 35 = .ok (.aload_n 0, 1) := by decide +kernel
theorem dX10_pairs_36 : decode cX10_pairs 36 = .ok (.getfield 35, 3) := by decide +kernel
theorem dX10_pairs_39 : decode cX10_pairs 39 = .ok (.iload_n 2, 1) := by decide +kernel
theorem dX10_pairs_40 : decode cX10_pairs 40 = .ok (.iaload, 1) := by decide +kernel
theorem dX10_pairs_41 : decode cX10_pairs 41 = .ok (.aload_n 0, 1) := by decide +kernel
theorem dX10_pairs_42 : decode cX10_pairs 42 = .ok (.getfield 35, 3) := by decide +kernel
theorem dX10_pairs_45 : decode cX10_pairs 45 = .ok (.iload_n 3, 1) := by decide +kernel
theorem dX10_pairs_46 : decode cX10_pairs 46 = .ok (.iaload, 1) := by decide +kernel
theorem dX10_pairs_47 : decode cX10_pairs 47 = .ok (.if_icmp .ne 7, 3) := by decide +kernel
theorem dX10_pairs_50 : decode cX10_pairs 50 = .ok (.iconst 1, 1) := by decide +kernel
theorem dX10_pairs_51 : decode cX10_pairs 51 = .ok (.goto 4, 3) := by decide +kernel
theorem dX10_pairs_54 : decode cX10_pairs 54 = .ok (.iconst 0, 1) := by decide +kernel
theorem dX10_pairs_55 : decode cX10_pairs 55 = .ok (.iadd, 1) := by decide +kernel
theorem dX10_pairs_56 : decode cX10_pairs 56 = .ok (.istore_n 1, 1) := by decide +kernel
theorem dX10_pairs_57 : decode cX10_pairs 57 = .ok (.iinc 3 1, 3) := by decide +kernel
theorem dX10_pairs_60 : decode cX10_pairs 60 = .ok (.goto (-46), 3) := by decide +kernel
theorem dX10_pairs_63 : decode cX10_pairs 63 = .ok (.iinc 2 1, 3) := by decide +kernel
theorem dX10_pairs_66 : decode cX10_pairs 66 = .ok (.goto (-62), 3) := by decide +kernel
theorem dX10_pairs_69 : decode cX10_pairs 69 = .ok (.iload_n 1, 1) := by decide +kernel
theorem dX10_pairs_70 : decode cX10_pairs 70 = .ok (.ireturn, 1) := by decide +kernel
theorem dX10_deal_0 : decode cX10_deal 0 = .ok (.iload_n 1, 1) := by decide +kernel
theorem dX10_deal_1 : decode cX10_deal 1 = .ok (.istore_n 2, 1) := by decide +kernel
theorem dX10_deal_2 : decode cX10_deal 2 = .ok (.aload_n 0, 1) := by decide +kernel
theorem dX10_deal_3 : decode cX10_deal 3 = .ok (.getfield 13, 3) := by decide +kernel
theorem dX10_deal_6 : decode cX10_deal 6 = .ok (.iconst 1, 1) := by decide +kernel
theorem dX10_deal_7 : decode cX10_deal 7 = .ok (.isub, 1) := by decide +kernel
theorem dX10_deal_8 : decode cX10_deal 8 = .ok (.istore_n 3, 1) := by decide +kernel
theorem dX10_deal_9 : decode cX10_deal 9 = .ok (.iload_n 3, 1) := by decide +kernel
theorem dX10_deal_10 : decode cX10_deal 10 = .ok (.ifCond .lt 32, 3) := by decide +kernel
theorem dX10_deal_13 : decode cX10_deal 13 = .ok (.aload_n 0, 1) := by decide +kernel
theorem dX10_deal_14 : decode cX10_deal 14 = .ok (.getfield 158, 3) := by decide +kernel
theorem dX10_deal_17 : decode cX10_deal 17 = .ok (.iload_n 3, 1) := by decide +kernel
theorem dX10_deal_18 : decode cX10_deal 18 = .ok (.iload_n 2, 1) := by decide +kernel
theorem dX10_deal_19 : decode cX10_deal 19 = .ok (.aload_n 0, 1) := by decide +kernel
theorem dX10_deal_20 : decode cX10_deal 20 = .ok (.getfield 13, 3) := by decide +kernel
theorem dX10_deal_23 : decode cX10_deal 23 = .ok (.iload_n 3, 1) := by decide +kernel
theorem dX10_deal_24 : decode cX10_deal 24 = .ok (.isub, 1) := by decide +kernel
theorem dX10_deal_25 : decode cX10_deal 25 = .ok (.irem, 1) := by decide +kernel
theorem dX10_deal_26 : decode cX10_deal 26 = .ok (.iastore, 1) := by decide +kernel
theorem dX10_deal_27 : decode cX10_deal 27 = .ok (.iload_n 2, 1) := by decide +kernel
theorem dX10_deal_28 : decode cX10_deal 28 = .ok (.aload_n 0, 1) := by decide +kernel
theorem dX10_deal_29 : decode cX10_deal 29 = .ok (.getfield 13, 3) := by decide +kernel
theorem dX10_deal_32 : decode cX10_deal 32 = .ok (.iload_n 3, 1) := by decide +kernel
theorem dX10_deal_33 : decode cX10_deal 33 = .ok (.isub, 1) := by decide +kernel
theorem dX10_deal_34 : decode cX10_deal 34 = .ok (.idiv, 1) := by decide +kernel
theorem dX10_deal_35 : decode cX10_deal 35 = .ok (.istore_n 2, 1) := by decide +kernel
theorem dX10_deal_36 : decode cX10_deal 36 = .ok (.iinc 3 (-1), 3) := by decide +kernel
theorem dX10_deal_39 : decode cX10_deal 39 = .ok (.goto (-30), 3) := by decide +kernel
theorem dX10_deal_42 : decode cX10_deal 42 = .ok (.iconst 0, 1) := by decide +kernel
theorem dX10_deal_43 : decode cX10_deal 43 = .ok (.istore_n 3, 1) := by decide +kernel
theorem dX10_deal_44 : decode cX10_deal 44 = .ok (.iconst 0, 1) := by decide +kernel
theorem dX10_deal_45 : decode cX10_deal 45 = .ok (.istore 4, 2) := by decide +kernel
theorem dX10_deal_47 : decode cX10_deal 47 = .ok (.iload 4, 2) := by decide +kernel
theorem dX10_deal_49 : decode cX10_deal 49 = .ok (.aload_n 0, 1) := by decide +kernel
theorem dX10_deal_50 : decode cX10_deal 50 = .ok (.getfield 13, 3) := by decide +kernel
theorem dX10_deal_53 : decode cX10_deal 53 = .ok (.if_icmp .ge 83, 3) := by decide +kernel
theorem dX10_deal_56 : decode cX10_deal 56 = .ok (.aload_n 0, 1) := by decide +kernel
theorem dX10_deal_57 : decode cX10_deal 57 = .ok (.getfield 158, 3) := by decide +kernel
theorem dX10_deal_60 : decode cX10_deal 60 = .ok (.iload 4, 2) := by decide +kernel
theorem dX10_deal_62 : decode cX10_deal 62 = .ok (.iaload, 1) := by decide +kernel
theorem dX10_deal_63 : decode cX10_deal 63 = .ok (.istore 5, 2) := by decide +kernel
theorem dX10_deal_65 : decode cX10_deal 65 = .ok (.iconst 0, 1) := by decide +kernel
theorem dX10_deal_66 : decode cX10_deal 66 = .ok (.istore 6, 2) := by decide +kernel
theorem dX10_deal_68 : decode cX10_deal 68 = .ok (.iload_n 3, 1) := by decide +kernel
theorem dX10_deal_69 : decode cX10_deal 69 = .ok (.iload 6, 2) := by decide +kernel
theorem dX10_deal_71 : decode cX10_deal 71 = .ok (.ishr, 1) := by decide +kernel
theorem dX10_deal_72 : decode cX10_deal 72 = .ok (.iconst 1, 1) := by decide +kernel
theorem dX10_deal_73 : decode cX10_deal 73 = .ok (.iand, 1) := by decide +kernel
theorem dX10_deal_74 : decode cX10_deal 74 = .ok (.iconst 1, 1) := by decide +kernel
theorem dX10_deal_75 : decode cX10_deal 75 = .ok (.if_icmp .eq 8, 3) := by decide +kernel
theorem dX10_deal_78 : decode cX10_deal 78 = .ok (.iload 5, 2) := by decide +kernel
theorem dX10_deal_80 : decode cX10_deal 80 = .ok (.ifCond .le 29, 3) := by decide +kernel
theorem dX10_deal_83 : decode cX10_deal 83 = .ok (.iload 5, 2) := by decide +kernel
theorem dX10_deal_85 : decode cX10_deal 85 = .ok (.iload_n 3, 1) := by decide +kernel
theorem dX10_deal_86 : decode cX10_deal 86 = .ok (.iload 6, 2) := by decide +kernel
theorem dX10_deal_88 : decode cX10_deal 88 = .ok (.ishr, 1) := by decide +kernel
theorem dX10_deal_89 : decode cX10_deal 89 = .ok (.iconst 1, 1) := by decide +kernel
theorem dX10_deal_90 : decode cX10_deal 90 = .ok (.iand, 1) := by decide +kernel
theorem dX10_deal_91 : decode cX10_deal 91 = .ok (.iconst 1, 1) := by decide +kernel
theorem dX10_deal_92 : decode cX10_deal 92 = .ok (.if_icmp .ne 7, 3) := by decide +kernel
theorem dX10_deal_95 : decode cX10_deal 95 = .ok (.iconst 0, 1) := by decide +kernel
theorem dX10_deal_96 : decode cX10_deal 96 = .ok (.goto 4, 3) := by decide +kernel
theorem dX10_deal_99 : decode cX10_deal 99 = .ok (.iconst 1, 1) := by decide +kernel
theorem dX10_deal_100 : decode cX10_deal 100 = .ok (.isub, 1) := by decide +kernel
theorem dX10_deal_101 : decode cX10_deal 101 = .ok (.istore 5, 2) := by decide +kernel
theorem dX10_deal_103 : decode cX10_deal 103 = .ok (.iinc 6 1, 3) := by decide +kernel
theorem dX10_deal_106 : decode cX10_deal 106 = .ok (.goto (-38), 3) := by decide +kernel
theorem dX10_deal_109 : decode cX10_deal 109 = .ok (.iload_n 3, 1) := by decide +kernel
theorem dX10_deal_110 : decode cX10_deal 110 = .ok (.iconst 1, 1) := by decide +kernel
theorem dX10_deal_111 : decode cX10_deal 111 = .ok (.iload 6, 2) := by decide +kernel
theorem dX10_deal_113 : decode cX10_deal 113 = .ok (.ishl, 1) := by decide +kernel
theorem dX10_deal_114 : decode cX10_deal 114 = .ok (.ior, 1) := by decide +kernel
theorem dX10_deal_115 : decode cX10_deal 115 = .ok (.istore_n 3, 1) := by decide +kernel
theorem dX10_deal_116 : decode cX10_deal 116 = .ok (.aload_n 0, 1) := by decide +kernel
theorem dX10_deal_117 : decode cX10_deal 117 = .ok (.getfield 35, 3) := by decide +kernel
theorem dX10_deal_120 : decode cX10_deal 120 = .ok (.iload 4, 2) := by decide +kernel
theorem dX10_deal_122 : decode cX10_deal 122 = .ok (.aload_n 0, 1) := by decide +kernel
theorem dX10_deal_123 : decode cX10_deal 123 = .ok (.getfield 155, 3) := by decide +kernel
theorem dX10_deal_126 : decode cX10_deal 126 = .ok (.iload 6, 2) := by decide +kernel
theorem dX10_deal_128 : decode cX10_deal 128 = .ok (.iaload, 1) := by decide +kernel
theorem dX10_deal_129 : decode cX10_deal 129 = .ok (.iastore, 1) := by decide +kernel
theorem dX10_deal_130 : decode cX10_deal 130 = .ok (.iinc 4 1, 3) := by decide +kernel
theorem dX10_deal_133 : decode cX10_deal 133 = .ok (.goto (-86), 3) := by decide +kernel
theorem dX10_deal_136 : decode cX10_deal 136 = .ok (.return_, 1) := by decide +kernel
theorem dX10_sorted_0 : decode cX10_sorted 0 = .ok (.aload_n 0, 1) := by decide +kernel
theorem dX10_sorted_1 : decode cX10_sorted 1 = .ok (.iload_n 1, 1) := by decide +kernel
theorem dX10_sorted_2 : decode cX10_sorted 2 = .ok (.iconst 0, 1) := by decide +kernel
theorem dX10_sorted_3 : decode cX10_sorted 3 = .ok (.iconst 2, 1) := by decide +kernel
theorem dX10_sorted_4 : decode cX10_sorted 4 = .ok (.invokevirtual 197, 3) := by decide +kernel
theorem dX10_sorted_7 : decode cX10_sorted 7 = .ok (.ifCond .ne 5, 3) := by decide +kernel
theorem dX10_sorted_10 : decode cX10_sorted 10 = .ok (.iconst (-1), 1) := by decide +kernel
theorem dX10_sorted_11 : decode cX10_sorted 11 = .ok (.ireturn, 1) := by decide +kernel
theorem dX10_sorted_12 : decode cX10_sorted 12 = .ok (.aload_n 0, 1) := by decide +kernel
theorem dX10_sorted_13 : decode cX10_sorted 13 = .ok (.invokevirtual 372, 3) := by decide +kernel
theorem dX10_sorted_16 : decode cX10_sorted 16 = .ok (.istore_n 2, 1) := by decide +kernel
theorem dX10_sorted_17 : decode cX10_sorted 17 = .ok (.iload_n 1, 1) := by decide +kernel
theorem dX10_sorted_18 : decode cX10_sorted 18 = .ok (.ifCond .ne 5, 3) := by decide +kernel
theorem dX10_sorted_21 : decode cX10_sorted 21 = .ok (.iload_n 2, 1) := by decide +kernel
theorem dX10_sorted_22 : decode cX10_sorted 22 = .ok (.ireturn, 1) := by decide +kernel
theorem dX10_sorted_23 : decode cX10_sorted 23 = .ok (.aload_n 0, 1) := by decide +kernel
theorem dX10_sorted_24 : decode cX10_sorted 24 = .ok (.getfield 13, 3) := by decide +kernel
theorem dX10_sorted_27 : decode cX10_sorted 27 = .ok (.bipush 7, 2) := by decide +kernel
theorem dX10_sorted_29 : decode cX10_sorted 29 = .ok (.if_icmp .le 6, 3) := by decide +kernel
theorem dX10_sorted_32 : decode cX10_sorted 32 = .ok (.bipush (-9), 2) := by decide +kernel
theorem dX10_sorted_34 : decode cX10_sorted 34 = .ok (.ireturn, 1) := by decide +kernel
theorem dX10_sorted_35 : decode cX10_sorted 35 = .ok (.iconst 1, 1) := by decide +kernel
theorem dX10_sorted_36 : decode cX10_sorted 36 = .ok (.istore_n 3, 1) := by decide +kernel
theorem dX10_sorted_37 : decode cX10_sorted 37 = .ok (.iconst 2, 1) := by decide +kernel
theorem dX10_sorted_38 : decode cX10_sorted 38 = .ok (.istore 4, 2) := by decide +kernel
theorem dX10_sorted_40 : decode cX10_sorted 40 = .ok (.iload 4, 2) := by decide +kernel
theorem dX10_sorted_42 : decode cX10_sorted 42 = .ok (.aload_n 0, 1) := by decide +kernel
theorem dX10_sorted_43 : decode cX10_sorted 43 = .ok (.getfield 13, 3) := by decide +kernel
theorem dX10_sorted_46 : decode cX10_sorted 46 = .ok (.if_icmp .gt 14, 3) := by decide +kernel
theorem dX10_sorted_49 : decode cX10_sorted 49 = .ok (.iload_n 3, 1) := by decide +kernel
theorem dX10_sorted_50 : decode cX10_sorted 50 = .ok (.iload 4, 2) := by decide +kernel
theorem dX10_sorted_52 : decode cX10_sorted 52 = .ok (.imul, 1) := by decide +kernel
theorem dX10_sorted_53 : decode cX10_sorted 53 = .ok (.istore_n 3, 1) := by decide +kernel
theorem dX10_sorted_54 : decode cX10_sorted 54 = .ok (.iinc 4 1, 3) := by decide +kernel
theorem dX10_sorted_57 : decode cX10_sorted 57 = .ok (.goto (-17), 3) := by decide +kernel
theorem dX10_sorted_60 : decode cX10_sorted 60 = .ok (.iload_n 1, 1) := by decide +kernel
theorem dX10_sorted_61 : decode cX10_sorted 61 = .ok (.iconst 2, 1) := by decide +kernel
theorem dX10_sorted_62 : decode cX10_sorted 62 = .ok (.if_icmp .ne 5, 3) := by decide +kernel
theorem dX10_sorted_65 : decode cX10_sorted 65 = .ok (.iload_n 3, 1) := by decide +kernel
theorem dX10_sorted_66 : decode cX10_sorted 66 = .ok (.ireturn, 1) := by decide +kernel
theorem dX10_sorted_67 : decode cX10_sorted 67 = .ok (.iconst 0, 1) := by decide +kernel
theorem dX10_sorted_68 : decode cX10_sorted 68 = .ok (.istore 4, 2) := by decide +kernel
theorem dX10_sorted_70 : decode cX10_sorted 70 = .ok (.iload 4, 2) := by decide +kernel
theorem dX10_sorted_72 : decode cX10_sorted 72 = .ok (.aload_n 0, 1) := by decide +kernel
theorem dX10_sorted_73 : decode cX10_sorted 73 = .ok (.getfield 13, 3) := by decide +kernel
theorem dX10_sorted_76 : decode cX10_sorted 76 = .ok (.if_icmp .ge 23, 3) := by decide +kernel
theorem dX10_sorted_79 : decode cX10_sorted 79 = .ok (.aload_n 0, 1) := by decide +kernel
theorem dX10_sorted_80 : decode cX10_sorted 80 = .ok (.getfield 155, 3) := by decide +kernel
theorem dX10_sorted_83 : decode cX10_sorted 83 = .ok (.iload 4, 2) := by decide +kernel
theorem dX10_sorted_85 : decode cX10_sorted 85 = .ok (.aload_n 0, 1) := by decide +kernel
theorem dX10_sorted_86 : decode cX10_sorted 86 = .ok (.getfield 35, 3) := by decide +kernel
theorem dX10_sorted_89 : decode cX10_sorted 89 = .ok (.iload 4, 2) := by decide +kernel
theorem dX10_sorted_91 : decode cX10_sorted 91 = .ok (.iaload, 1) := by decide +kernel
theorem dX10_sorted_92 : decode cX10_sorted 92 = .ok (.iastore, 1) := by decide +kernel
theorem dX10_sorted_93 : decode cX10_sorted 93 = .ok (.iinc 4 1, 3) := by decide +kernel
theorem dX10_sorted_96 : decode cX10_sorted 96 = .ok (.goto (-26), 3) := by decide +kernel
theorem dX10_sorted_99 : decode cX10_sorted 99 = .ok (.iconst 0, 1) := by decide +kernel
theorem dX10_sorted_100 : decode cX10_sorted 100 = .ok (.istore 4, 2) := by decide +kernel
theorem dX10_sorted_102 : decode cX10_sorted 102 = .ok (.iconst 0, 1) := by decide +kernel
theorem dX10_sorted_103 : decode cX10_sorted 103 = .ok (.istore 5, 2) := by decide +kernel
theorem dX10_sorted_105 : decode cX10_sorted 105 = .ok (.iload 5, 2) := by decide +kernel
theorem dX10_sorted_107 : decode cX10_sorted 107 = .ok (.iload_n 3, 1) := by decide +kernel
theorem dX10_sorted_108 : decode cX10_sorted 108 = .ok (.if_icmp .ge 33, 3) := by decide +kernel
theorem dX10_sorted_111 : decode cX10_sorted 111 = .ok (.aload_n 0, 1) := by decide +kernel
theorem dX10_sorted_112 : decode cX10_sorted 112 = .ok (.iload 5, 2) := by decide +kernel
theorem dX10_sorted_114 : decode cX10_sorted 114 = .ok (.invokevirtual 375, 3) := by decide +kernel
theorem dX10_sorted_117 : decode cX10_sorted 117 = .ok (.iload 4, 2) := by decide +kernel
theorem dX10_sorted_119 : decode cX10_sorted 119 = .ok (.aload_n 0, 1) := by decide +kernel
theorem dX10_sorted_120 : decode cX10_sorted 120 = .ok (.invokevirtual 372, 3) := by decide +kernel
theorem dX10_sorted_123 : decode cX10_sorted 123 = .ok (.iload_n 2, 1) := by decide +kernel
theorem dX10_sorted_124 : decode cX10_sorted 124 = .ok (.if_icmp .lt 7, 3) := by decide +kernel
theorem dX10_sorted_127 : decode cX10_sorted 127 = .ok (.iconst 1, 1) := by decide +kernel
theorem dX10_sorted_128 : decode cX10_sorted 128 = .ok (.goto 4, 3) := by decide +kernel
theorem dX10_sorted_131 : decode cX10_sorted 131 = .ok (.iconst 0, 1) := by decide +kernel
theorem dX10_sorted_132 : decode cX10_sorted 132 = .ok (.iadd, 1) := by decide +kernel
theorem dX10_sorted_133 : decode cX10_sorted 133 = .ok (.istore 4, 2) := by decide +kernel
theorem dX10_sorted_135 : decode cX10_sorted 135 = .ok (.iinc 5 1, 3) := by decide +kernel
theorem dX10_sorted_138 : decode cX10_sorted 138 = .ok (.goto (-33), 3) := by decide +kernel
theorem dX10_sorted_141 : decode cX10_sorted 141 = .ok (.iconst 0, 1) := by decide +kernel
theorem dX10_sorted_142 : decode cX10_sorted 142 = .ok (.istore 5, 2) := by decide +kernel
theorem dX10_sorted_144 : decode cX10_sorted 144 = .ok (.iload 5, 2) := by decide +kernel
theorem dX10_sorted_146 : decode cX10_sorted 146 = .ok (.aload_n 0, 1) := by decide +kernel
theorem dX10_sorted_147 : decode cX10_sorted 147 = .ok (.getfield 13, 3) := by decide +kernel
theorem dX10_sorted_150 : decode cX10_sorted 150 = .ok (.if_icmp .ge 23, 3) := by decide +kernel
theorem dX10_sorted_153 : decode cX10_sorted 153 = .ok (.aload_n 0, 1) := by decide +kernel
theorem dX10_sorted_154 : decode cX10_sorted 154 = .ok (.getfield 35, 3) := by decide +kernel
theorem dX10_sorted_157 : decode cX10_sorted 157 = .ok (.iload 5, 2) := by decide +kernel
theorem dX10_sorted_159 : decode cX10_sorted 159 = .ok (.aload_n 0, 1) := by decide +kernel
theorem dX10_sorted_160 : decode cX10_sorted 160 = .ok (.getfield 155, 3) := by decide +kernel
theorem dX10_sorted_163 : decode cX10_sorted 163 = .ok (.iload 5, 2) := by decide +kernel
theorem dX10_sorted_165 : decode cX10_sorted 165 = .ok (.iaload, 1) := by decide +kernel
theorem dX10_sorted_166 : decode cX10_sorted 166 = .ok (.iastore, 1) := by decide +kernel
theorem dX10_sorted_167 : decode cX10_sorted 167 = .ok (.iinc 5 1, 3) := by decide +kernel
theorem dX10_sorted_170 : decode cX10_sorted 170 = .ok (.goto (-26), 3) := by decide +kernel
theorem dX10_sorted_173 : decode cX10_sorted 173 = .ok (.iload 4, 2) := by decide +kernel
theorem dX10_sorted_175 : decode cX10_sorted 175 = .ok (.ireturn, 1) := by decide +kernel
theorem dX10_tip_0 : decode cX10_tip 0 = .ok (.aload_n 0, 1) := by decide +kernel
theorem dX10_tip_1 : decode cX10_tip 1 = .ok (.invokevirtual 354, 3) := by decide +kernel
theorem dX10_tip_4 : decode cX10_tip 4 = .ok (.aload_n 0, 1) := by decide +kernel
theorem dX10_tip_5 : decode cX10_tip 5 = .ok (.iload_n 1, 1) := by decide +kernel
theorem dX10_tip_6 : decode cX10_tip 6 = .ok (.invokevirtual 348, 3) := by decide +kernel
theorem dX10_tip_9 : decode cX10_tip 9 = .ok (.istore_n 2, 1) := by decide +kernel
theorem dX10_tip_10 : decode cX10_tip 10 = .ok (.iconst 0, 1) := by decide +kernel
theorem dX10_tip_11 : decode cX10_tip 11 = .ok (.istore_n 3, 1) := by decide +kernel
theorem dX10_tip_12 : decode cX10_tip 12 = .ok (.iload_n 3, 1) := by decide +kernel
theorem dX10_tip_13 : decode cX10_tip 13 = .ok (.aload_n 0, 1) := by decide +kernel
theorem dX10_tip_14 : decode cX10_tip 14 = .ok (.getfield 13, 3) := by decide +kernel
theorem dX10_tip_17 : decode cX10_tip 17 = .ok (.if_icmp .ge 21, 3) := by decide +kernel
theorem dX10_tip_20 : decode cX10_tip 20 = .ok (.aload_n 0, 1) := by decide +kernel
theorem dX10_tip_21 : decode cX10_tip 21 = .ok (.getfield 161, 3) := by decide +kernel
theorem dX10_tip_24 : decode cX10_tip 24 = .ok (.iload_n 3, 1) := by decide +kernel
theorem dX10_tip_25 : decode cX10_tip 25 = .ok (.aload_n 0, 1) := by decide +kernel
theorem dX10_tip_26 : decode cX10_tip 26 = .ok (.getfield 41, 3) := by decide +kernel
theorem dX10_tip_29 : decode cX10_tip 29 = .ok (.iload_n 3, 1) := by decide +kernel
theorem dX10_tip_30 : decode cX10_tip 30 = .ok (.iaload, 1) := by decide +kernel
theorem dX10_tip_31 : decode cX10_tip 31 = .ok (.iastore, 1) := by decide +kernel
theorem dX10_tip_32 : decode cX10_tip 32 = .ok (.iinc 3 1, 3) := by decide +kernel
theorem dX10_tip_35 : decode cX10_tip 35 = .ok (.goto (-23), 3) := by decide +kernel
theorem dX10_tip_38 : decode cX10_tip 38 = .ok (.aload_n 0, 1) := by decide +kernel
theorem dX10_tip_39 : decode cX10_tip 39 = .ok (.invokevirtual 360, 3) := by decide +kernel
theorem dX10_tip_42 : decode cX10_tip 42 = .ok (.iconst 0, 1) := by decide +kernel
theorem dX10_tip_43 : decode cX10_tip 43 = .ok (.istore_n 3, 1) := by decide +kernel
theorem dX10_tip_44 : decode cX10_tip 44 = .ok (.iload_n 3, 1) := by decide +kernel
theorem dX10_tip_45 : decode cX10_tip 45 = .ok (.aload_n 0, 1) := by decide +kernel
theorem dX10_tip_46 : decode cX10_tip 46 = .ok (.getfield 13, 3) := by decide +kernel
theorem dX10_tip_49 : decode cX10_tip 49 = .ok (.if_icmp .ge 137, 3) := by decide +kernel
theorem dX10_tip_52 : decode cX10_tip 52 = .ok (.iload_n 2, 1) := by decide +kernel
theorem dX10_tip_53 : decode cX10_tip 53 = .ok (.ifCond .lt 133, 3) := by decide +kernel
theorem dX10_tip_56 : decode cX10_tip 56 = .ok (.iconst 0, 1) := by decide +kernel
theorem dX10_tip_57 : decode cX10_tip 57 = .ok (.istore 4, 2) := by decide +kernel
theorem dX10_tip_59 : decode cX10_tip 59 = .ok (.iload 4, 2) := by decide +kernel
theorem dX10_tip_61 : decode cX10_tip 61 = .ok (.aload_n 0, 1) := by decide +kernel
theorem dX10_tip_62 : decode cX10_tip 62 = .ok (.getfield 7, 3) := by decide +kernel
theorem dX10_tip_65 : decode cX10_tip 65 = .ok (.if_icmp .ge 115, 3) := by decide +kernel
theorem dX10_tip_68 : decode cX10_tip 68 = .ok (.aload_n 0, 1) := by decide +kernel
