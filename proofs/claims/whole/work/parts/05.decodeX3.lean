theorem dX3_in_0 : decode cX3_in 0 = .ok (.lload_n 0, 1) := by decide +kernel
theorem dX3_in_1 : decode cX3_in 1 = .ok (.lload_n 2, 1) := by decide +kernel
theorem dX3_in_2 : decode cX3_in 2 = .ok (.lcmp, 1) := by decide +kernel
theorem dX3_in_3 : decode cX3_in 3 = .ok (.ifCond .lt 14, 3) := by decide +kernel
theorem dX3_in_6 : decode cX3_in 6 = .ok (.lload_n 0, 1) := by decide +kernel
theorem dX3_in_7 : decode cX3_in 7 = .ok (.lload 4, 2) := by decide +kernel
theorem dX3_in_9 : decode cX3_in 9 = .ok (.lcmp, 1) := by decide +kernel
theorem dX3_in_10 : decode cX3_in 10 = .ok (.ifCond .gt 7, 3) := by decide +kernel
theorem dX3_in_13 : decode cX3_in 13 = .ok (.iconst 1, 1) := by decide +kernel
theorem dX3_in_14 : decode cX3_in 14 = .ok (.goto 4, 3) := by decide +kernel
theorem dX3_in_17 : decode cX3_in 17 = .ok (.iconst 0, 1) := by decide +kernel
theorem dX3_in_18 : decode cX3_in 18 = .ok (.ireturn, 1) := by decide +kernel
theorem dX3_init_0 : decode cX3_init 0 = .ok (.aload_n 0, 1) := by decide +kernel
theorem dX3_init_1 : decode cX3_init 1 = .ok (.invokespecial 7, 3) := by decide +kernel
theorem dX3_init_4 : decode cX3_init 4 = .ok (.aload_n 0, 1) := by decide +kernel
theorem dX3_init_5 : decode cX3_init 5 = .ok (.bipush 10, 2) := by decide +kernel
theorem dX3_init_7 : decode cX3_init 7 = .ok (.newarray .boolean, 2) := by decide +kernel
theorem dX3_init_9 : decode cX3_init 9 = .ok (.putfield 13, 3) := by decide +kernel
theorem dX3_init_12 : decode cX3_init 12 = .ok (.aload_n 0, 1) := by decide +kernel
theorem dX3_init_13 : decode cX3_init 13 = .ok (.bipush 10, 2) := by decide +kernel
theorem dX3_init_15 : decode cX3_init 15 = .ok (.newarray .int, 2) := by decide +kernel
theorem dX3_init_17 : decode cX3_init 17 = .ok (.putfield 17, 3) := by decide +kernel
theorem dX3_init_20 : decode cX3_init 20 = .ok (.aload_n 0, 1) := by decide +kernel
theorem dX3_init_21 : decode cX3_init 21 = .ok (.bipush 41, 2) := by decide +kernel
theorem dX3_init_23 : decode cX3_init 23 = .ok (.newarray .int, 2) := by decide +kernel
theorem dX3_init_25 : decode cX3_init 25 = .ok (.putfield 21, 3) := by decide +kernel
theorem dX3_init_28 : decode cX3_init 28 = .ok (.aload_n 0, 1) := by decide +kernel
theorem dX3_init_29 : decode cX3_init 29 = .ok (.iconst 1, 1) := by decide +kernel
theorem dX3_init_30 : decode cX3_init 30 = .ok (.putfield 24, 3) := by decide +kernel
theorem dX3_init_33 : decode cX3_init 33 = .ok (.aload_n 0, 1) := by decide +kernel
theorem dX3_init_34 : decode cX3_init 34 = .ok (.bipush 61, 2) := by decide +kernel
theorem dX3_init_36 : decode cX3_init 36 = .ok (.newarray .int, 2) := by decide +kernel
theorem dX3_init_38 : decode cX3_init 38 = .ok (.putfield 27, 3) := by decide +kernel
theorem dX3_init_41 : decode cX3_init 41 = .ok (.aload_n 0, 1) := by decide +kernel
theorem dX3_init_42 : decode cX3_init 42 = .ok (.bipush 61, 2) := by decide +kernel
theorem dX3_init_44 : decode cX3_init 44 = .ok (.newarray .int, 2) := by decide +kernel
theorem dX3_init_46 : decode cX3_init 46 = .ok (.putfield 30, 3) := by decide +kernel
theorem dX3_init_49 : decode cX3_init 49 = .ok (.aload_n 0, 1) := by decide +kernel
theorem dX3_init_50 : decode cX3_init 50 = .ok (.bipush 61, 2) := by decide +kernel
theorem dX3_init_52 : decode cX3_init 52 = .ok (.newarray .int, 2) := by decide +kernel
theorem dX3_init_54 : decode cX3_init 54 = .ok (.putfield 33, 3) := by decide +kernel
theorem dX3_init_57 : decode cX3_init 57 = .ok (.aload_n 0, 1) := by decide +kernel
theorem dX3_init_58 : decode cX3_init 58 = .ok (.bipush 61, 2) := by decide +kernel
theorem dX3_init_60 : decode cX3_init 60 = .ok (.newarray .int, 2) := by decide +kernel
theorem dX3_init_62 : decode cX3_init 62 = .ok (.putfield 36, 3) := by decide +kernel
theorem dX3_init_65 : decode cX3_init 65 = .ok (.aload_n 0, 1) := by decide +kernel
theorem dX3_init_66 : decode cX3_init 66 = .ok (.bipush 61, 2) := by decide +kernel
theorem dX3_init_68 : decode cX3_init 68 = .ok (.newarray .int, 2) := by decide +kernel
theorem dX3_init_70 : decode cX3_init 70 = .ok (.putfield 39, 3) := by decide +kernel
theorem dX3_init_73 : decode cX3_init 73 = .ok (.aload_n 0, 1) := by decide +kernel
theorem dX3_init_74 : decode cX3_init 74 = .ok (.sipush 6710, 3) := by decide +kernel
theorem dX3_init_77 : decode cX3_init 77 = .ok (.newarray .boolean, 2) := by decide +kernel
theorem dX3_init_79 : decode cX3_init 79 = .ok (.putfield 42, 3) := by decide +kernel
theorem dX3_init_82 : decode cX3_init 82 = .ok (.aload_n 0, 1) := by decide +kernel
theorem dX3_init_83 : decode cX3_init 83 = .ok (.sipush 6710, 3) := by decide +kernel
theorem dX3_init_86 : decode cX3_init 86 = .ok (.newarray .boolean, 2) := by decide +kernel
theorem dX3_init_88 : decode cX3_init 88 = .ok (.putfield 45, 3) := by decide +kernel
theorem dX3_init_91 : decode cX3_init 91 = .ok (.aload_n 0, 1) := by decide +kernel
theorem dX3_init_92 : decode cX3_init 92 = .ok (.sipush 610, 3) := by decide +kernel
theorem dX3_init_95 : decode cX3_init 95 = .ok (.newarray .int, 2) := by decide +kernel
theorem dX3_init_97 : decode cX3_init 97 = .ok (.putfield 48, 3) := by decide +kernel
theorem dX3_init_100 : decode cX3_init 100 = .ok (.aload_n 0, 1) := by decide +kernel
theorem dX3_init_101 : decode cX3_init 101 = .ok (.sipush 410, 3) := by decide +kernel
theorem dX3_init_104 : decode cX3_init 104 = .ok (.newarray .int, 2) := by decide +kernel
theorem dX3_init_106 : decode cX3_init 106 = .ok (.putfield 51, 3) := by decide +kernel
theorem dX3_init_109 : decode cX3_init 109 = .ok (.aload_n 0, 1) := by decide +kernel
theorem dX3_init_110 : decode cX3_init 110 = .ok (.bipush 61, 2) := by decide +kernel
theorem dX3_init_112 : decode cX3_init 112 = .ok (.newarray .boolean, 2) := by decide +kernel
theorem dX3_init_114 : decode cX3_init 114 = .ok (.putfield 54, 3) := by decide +kernel
theorem dX3_init_117 : decode cX3_init 117 = .ok (.aload_n 0, 1) := by decide +kernel
theorem dX3_init_118 : decode cX3_init 118 = .ok (.bipush 61, 2) := by decide +kernel
theorem dX3_init_120 : decode cX3_init 120 = .ok (.newarray .boolean, 2) := by decide +kernel
theorem dX3_init_122 : decode cX3_init 122 = .ok (.putfield 57, 3) := by decide +kernel
theorem dX3_init_125 : decode cX3_init 125 = .ok (.aload_n 0, 1) := by decide +kernel
theorem dX3_init_126 : decode cX3_init 126 = .ok (.bipush 61, 2) := by decide +kernel
theorem dX3_init_128 : decode cX3_init 128 = .ok (.newarray .boolean, 2) := by decide +kernel
theorem dX3_init_130 : decode cX3_init 130 = .ok (.putfield 60, 3) := by decide +kernel
theorem dX3_init_133 : decode cX3_init 133 = .ok (.aload_n 0, 1) := by decide +kernel
theorem dX3_init_134 : decode cX3_init 134 = .ok (.sipush 671, 3) := by decide +kernel
theorem dX3_init_137 : decode cX3_init 137 = .ok (.newarray .boolean, 2) := by decide +kernel
theorem dX3_init_139 : decode cX3_init 139 = .ok (.putfield 63, 3) := by decide +kernel
theorem dX3_init_142 : decode cX3_init 142 = .ok (.aload_n 0, 1) := by decide +kernel
theorem dX3_init_143 : decode cX3_init 143 = .ok (.bipush 61, 2) := by decide +kernel
theorem dX3_init_145 : decode cX3_init 145 = .ok (.newarray .int, 2) := by decide +kernel
theorem dX3_init_147 : decode cX3_init 147 = .ok (.putfield 66, 3) := by decide +kernel
theorem dX3_init_150 : decode cX3_init 150 = .ok (.aload_n 0, 1) := by decide +kernel
theorem dX3_init_151 : decode cX3_init 151 = .ok (.iload_n 1, 1) := by decide +kernel
theorem dX3_init_152 : decode cX3_init 152 = .ok (.iconst 4, 1) := by decide +kernel
theorem dX3_init_153 : decode cX3_init 153 = .ok (.if_icmp .ge 7, 3) := by decide +kernel
theorem dX3_init_156 : decode cX3_init 156 = .ok (.iconst 4, 1) := by decide +kernel
theorem dX3_init_157 : decode cX3_init 157 = .ok (.goto 15, 3) := by decide +kernel
theorem dX3_init_160 : decode cX3_init 160 = .ok (.iload_n 1, 1) := by decide +kernel
theorem dX3_init_161 : decode cX3_init 161 = .ok (.bipush 10, 2) := by decide +kernel
theorem dX3_init_163 : decode cX3_init 163 = .ok (.if_icmp .le 8, 3) := by decide +kernel
theorem dX3_init_166 : decode cX3_init 166 = .ok (.bipush 10, 2) := by decide +kernel
theorem dX3_init_168 : decode cX3_init 168 = .ok (.goto 4, 3) := by decide +kernel
theorem dX3_init_171 : decode cX3_init 171 = .ok (.iload_n 1, 1) := by decide +kernel
theorem dX3_init_172 : decode cX3_init 172 = .ok (.putfield 69, 3) := by decide +kernel
theorem dX3_init_175 : decode cX3_init 175 = .ok (.iconst 0, 1) := by decide +kernel
theorem dX3_init_176 : decode cX3_init 176 = .ok (.istore_n 2, 1) := by decide +kernel
theorem dX3_init_177 : decode cX3_init 177 = .ok (.iload_n 2, 1) := by decide +kernel
theorem dX3_init_178 : decode cX3_init 178 = .ok (.bipush 40, 2) := by decide +kernel
theorem dX3_init_180 : decode cX3_init 180 = .ok (.if_icmp .gt 21, 3) := by decide +kernel
theorem dX3_init_183 : decode cX3_init 183 = .ok (.aload_n 0, 1) := by decide +kernel
theorem dX3_init_184 : decode cX3_init 184 = .ok (.getfield 21, 3) := by decide +kernel
theorem dX3_init_187 : decode cX3_init 187 = .ok (.iload_n 2, 1) := by decide +kernel
theorem dX3_init_188 : decode cX3_init 188 = .ok (.iload_n 2, 1) := by decide +kernel
theorem dX3_init_189 : decode cX3_init 189 = .ok (.aload_n 0, 1) := by decide +kernel
theorem dX3_init_190 : decode cX3_init 190 = .ok (.getfield 69, 3) := by decide +kernel
theorem dX3_init_193 : decode cX3_init 193 = .ok (.irem, 1) := by decide +kernel
theorem dX3_init_194 : decode cX3_init 194 = .ok (.iastore, 1) := by decide +kernel
theorem dX3_init_195 : decode cX3_init 195 = .ok (.iinc 2 1, 3) := by decide +kernel
theorem dX3_init_198 : decode cX3_init 198 = .ok (.goto (-21), 3) := by decide +kernel
theorem dX3_init_201 : decode cX3_init 201 = .ok (.iconst 0, 1) := by decide +kernel
theorem dX3_init_202 : decode cX3_init 202 = .ok (.istore_n 2, 1) := by decide +kernel
theorem dX3_init_203 : decode cX3_init 203 = .ok (.iload_n 2, 1) := by decide +kernel
theorem dX3_init_204 : decode cX3_init 204 = .ok (.sipush 410, 3) := by decide +kernel
theorem dX3_init_207 : decode cX3_init 207 = .ok (.if_icmp .ge 16, 3) := by decide +kernel
theorem dX3_init_210 : decode cX3_init 210 = .ok (.aload_n 0, 1) := by decide +kernel
theorem dX3_init_211 : decode cX3_init 211 = .ok (.getfield 51, 3) := by decide +kernel
theorem dX3_init_214 : decode cX3_init 214 = .ok (.iload_n 2, 1) := by decide +kernel
theorem dX3_init_215 : decode cX3_init 215 = .ok (.iconst (-1), 1) := by decide +kernel
theorem dX3_init_216 : decode cX3_init 216 = .ok (.iastore, 1) := by decide +kernel
theorem dX3_init_217 : decode cX3_init 217 = .ok (.iinc 2 1, 3) := by decide +kernel
theorem dX3_init_220 : decode cX3_init 220 = .ok (.goto (-17), 3) := by decide +kernel
theorem dX3_init_223 : decode cX3_init 223 = .ok (.aload_n 0, 1) := by decide +kernel
theorem dX3_init_224 : decode cX3_init 224 = .ok (.getfield 27, 3) := by decide +kernel
theorem dX3_init_227 : decode cX3_init 227 = .ok (.iconst 0, 1) := by decide +kernel
theorem dX3_init_228 : decode cX3_init 228 = .ok (.iconst (-1), 1) := by decide +kernel
theorem dX3_init_229 : decode cX3_init 229 = .ok (.iastore, 1) := by decide +kernel
theorem dX3_init_230 : decode cX3_init 230 = .ok (.aload_n 0, 1) := by decide +kernel
theorem dX3_init_231 : decode cX3_init 231 = .ok (.getfield 39, 3) := by decide +kernel
theorem dX3_init_234 : decode cX3_init 234 = .ok (.iconst 0, 1) := by decide +kernel
theorem dX3_init_235 : decode cX3_init 235 = .ok (.iconst (-1), 1) := by decide +kernel
theorem dX3_init_236 : decode cX3_init 236 = .ok (.iastore, 1) := by decide +kernel
theorem dX3_init_237 : decode cX3_init 237 = .ok (.return_, 1) := by decide +kernel
theorem dX3_isNode_0 : decode cX3_isNode 0 = .ok (.iload_n 1, 1) := by decide +kernel
theorem dX3_isNode_1 : decode cX3_isNode 1 = .ok (.i2l, 1) := by decide +kernel
theorem dX3_isNode_2 : decode cX3_isNode 2 = .ok (.lconst 0, 1) := by decide +kernel
theorem dX3_isNode_3 : decode cX3_isNode 3 = .ok (.aload_n 0, 1) := by decide +kernel
theorem dX3_isNode_4 : decode cX3_isNode 4 = .ok (.getfield 69, 3) := by decide +kernel
theorem dX3_isNode_7 : decode cX3_isNode 7 = .ok (.iconst 1, 1) := by decide +kernel
theorem dX3_isNode_8 : decode cX3_isNode 8 = .ok (.isub, 1) := by decide +kernel
theorem dX3_isNode_9 : decode cX3_isNode 9 = .ok (.i2l, 1) := by decide +kernel
theorem dX3_isNode_10 : decode cX3_isNode 10 = .ok (.invokestatic 72, 3) := by decide +kernel
theorem dX3_isNode_13 : decode cX3_isNode 13 = .ok (.ireturn, 1) := by decide +kernel
theorem dX3_isBlock_0 : decode cX3_isBlock 0 = .ok (.iload_n 1, 1) := by decide +kernel
theorem dX3_isBlock_1 : decode cX3_isBlock 1 = .ok (.i2l, 1) := by decide +kernel
theorem dX3_isBlock_2 : decode cX3_isBlock 2 = .ok (.lconst 0, 1) := by decide +kernel
theorem dX3_isBlock_3 : decode cX3_isBlock 3 = .ok (.aload_n 0, 1) := by decide +kernel
theorem dX3_isBlock_4 : decode cX3_isBlock 4 = .ok (.getfield 24, 3) := by decide +kernel
theorem dX3_isBlock_7 : decode cX3_isBlock 7 = .ok (.iconst 1, 1) := by decide +kernel
theorem dX3_isBlock_8 : decode cX3_isBlock 8 = .ok (.isub, 1) := by decide +kernel
theorem dX3_isBlock_9 : decode cX3_isBlock 9 = .ok (.i2l, 1) := by decide +kernel
theorem dX3_isBlock_10 : decode cX3_isBlock 10 = .ok (.invokestatic 72, 3) := by decide +kernel
theorem dX3_isBlock_13 : decode cX3_isBlock 13 = .ok (.ireturn, 1) := by decide +kernel
theorem dX3_isEpoch_0 : decode cX3_isEpoch 0 = .ok (.iload_n 0, 1) := by decide +kernel
theorem dX3_isEpoch_1 : decode cX3_isEpoch 1 = .ok (.i2l, 1) := by decide +kernel
theorem dX3_isEpoch_2 : decode cX3_isEpoch 2 = .ok (.lconst 1, 1) := by decide +kernel
theorem dX3_isEpoch_3 : decode cX3_isEpoch 3 = .ok (.ldc2_w 76, 3) := by decide +kernel
theorem dX3_isEpoch_6 : decode cX3_isEpoch 6 = .ok (.invokestatic 72, 3) := by decide +kernel
theorem dX3_isEpoch_9 : decode cX3_isEpoch 9 = .ok (.ireturn, 1) := by decide +kernel
theorem dX3_letter_0 : decode cX3_letter 0 = .ok (.bipush 11, 2) := by decide +kernel
theorem dX3_letter_2 : decode cX3_letter 2 = .ok (.iload_n 0, 1) := by decide +kernel
theorem dX3_letter_3 : decode cX3_letter 3 = .ok (.imul, 1) := by decide +kernel
theorem dX3_letter_4 : decode cX3_letter 4 = .ok (.iconst 1, 1) := by decide +kernel
theorem dX3_letter_5 : decode cX3_letter 5 = .ok (.iadd, 1) := by decide +kernel
theorem dX3_letter_6 : decode cX3_letter 6 = .ok (.iload_n 1, 1) := by decide +kernel
theorem dX3_letter_7 : decode cX3_letter 7 = .ok (.iadd, 1) := by decide +kernel
theorem dX3_letter_8 : decode cX3_letter 8 = .ok (.ireturn, 1) := by decide +kernel
theorem dX3_lead_0 : decode cX3_lead 0 = .ok (.aload_n 0, 1) := by decide +kernel
theorem dX3_lead_1 : decode cX3_lead 1 = .ok (.iconst 0, 1) := by decide +kernel
theorem dX3_lead_2 : decode cX3_lead 2 = .ok (.putfield 1, 3) := by decide +kernel
theorem dX3_lead_5 : decode cX3_lead 5 = .ok (.iload_n 1, 1) := by decide +kernel
theorem dX3_lead_6 : decode cX3_lead 6 = .ok (.invokestatic 78, 3) := by decide +kernel
theorem dX3_lead_9 : decode cX3_lead 9 = .ok (.ifCond .eq 11, 3) := by decide +kernel
theorem dX3_lead_12 : decode cX3_lead 12 = .ok (.aload_n 0, 1) := by decide +kernel
theorem dX3_lead_13 : decode cX3_lead 13 = .ok (.iload_n 2, 1) := by decide +kernel
theorem dX3_lead_14 : decode cX3_lead 14 = .ok (.invokevirtual 82, 3) := by decide +kernel
theorem dX3_lead_17 : decode cX3_lead 17 = .ok (.ifCond .ne 6, 3) := by decide +kernel
theorem dX3_lead_20 : decode cX3_lead 20 = .ok (.bipush (-2), 2) := by decide +kernel
theorem dX3_lead_22 : decode cX3_lead 22 = .ok (.ireturn, 1) := by decide +kernel
theorem dX3_lead_23 : decode cX3_lead 23 = .ok (.iload_n 1, 1) := by decide +kernel
theorem dX3_lead_24 : decode cX3_lead 24 = .ok (.aload_n 0, 1) := by decide +kernel
theorem dX3_lead_25 : decode cX3_lead 25 = .ok (.getfield 85, 3) := by decide +kernel
theorem dX3_lead_28 : decode cX3_lead 28 = .ok (.if_icmp .gt 7, 3) := by decide +kernel
theorem dX3_lead_31 : decode cX3_lead 31 = .ok (.iconst 1, 1) := by decide +kernel
theorem dX3_lead_32 : decode cX3_lead 32 = .ok (.goto 4, 3) := by decide +kernel
theorem dX3_lead_35 : decode cX3_lead 35 = .ok (.iconst 0, 1) := by decide +kernel
theorem dX3_lead_36 : decode cX3_lead 36 = .ok (.istore_n 3, 1) := by decide +kernel
theorem dX3_lead_37 : decode cX3_lead 37 = .ok (.iconst 1, 1) := by decide +kernel
theorem dX3_lead_38 : decode cX3_lead 38 = .ok (.istore 4, 2) := by decide +kernel
theorem dX3_lead_40 : decode cX3_lead 40 = .ok (.iload 4, 2) := by decide +kernel
theorem dX3_lead_42 : decode cX3_lead 42 = .ok (.aload_n 0, 1) := by decide +kernel
theorem dX3_lead_43 : decode cX3_lead 43 = .ok (.getfield 24, 3) := by decide +kernel
theorem dX3_lead_46 : decode cX3_lead 46 = .ok (.if_icmp .ge 30, 3) := by decide +kernel
theorem dX3_lead_49 : decode cX3_lead 49 = .ok (.iload_n 3, 1) := by decide +kernel
theorem dX3_lead_50 : decode cX3_lead 50 = .ok (.ifCond .ne 14, 3) := by decide +kernel
theorem dX3_lead_53 : decode cX3_lead 53 = .ok (.aload_n 0, 1) := by decide +kernel
theorem dX3_lead_54 : decode cX3_lead 54 = .ok (.getfield 30, 3) := by decide +kernel
theorem dX3_lead_57 : decode cX3_lead 57 = .ok (.iload 4, 2) := by decide +kernel
theorem dX3_lead_59 : decode cX3_lead 59 = .ok (.iaload, 1) := by decide +kernel
theorem dX3_lead_60 : decode cX3_lead 60 = .ok (.iload_n 1, 1) := by decide +kernel
theorem dX3_lead_61 : decode cX3_lead 61 = .ok (.if_icmp .ne 7, 3) := by decide +kernel
theorem dX3_lead_64 : decode cX3_lead 64 = .ok (.iconst 1, 1) := by decide +kernel
theorem dX3_lead_65 : decode cX3_lead 65 = .ok (.goto 4, 3) := by decide +kernel
theorem dX3_lead_68 : decode cX3_lead 68 = .ok (.iconst 0, 1) := by decide +kernel
theorem dX3_lead_69 : decode cX3_lead 69 = .ok (.istore_n 3, 1) := by decide +kernel
theorem dX3_lead_70 : decode cX3_lead 70 = .ok (.iinc 4 1, 3) := by decide +kernel
theorem dX3_lead_73 : decode cX3_lead 73 = .ok (.goto (-33), 3) := by decide +kernel
theorem dX3_lead_76 : decode cX3_lead 76 = .ok (.iload_n 3, 1) := by decide +kernel
theorem dX3_lead_77 : decode cX3_lead 77 = .ok (.ifCond .eq 6, 3) := by decide +kernel
theorem dX3_lead_80 : decode cX3_lead 80 = .ok (.bipush (-3), 2) := by decide +kernel
theorem dX3_lead_82 : decode cX3_lead 82 = .ok (.ireturn, 1) := by decide +kernel
theorem dX3_lead_83 : decode cX3_lead 83 = .ok (.aload_n 0, 1) := by decide +kernel
theorem dX3_lead_84 : decode cX3_lead 84 = .ok (.getfield 21, 3) := by decide +kernel
theorem dX3_lead_87 : decode cX3_lead 87 = .ok (.iload_n 1, 1) := by decide +kernel
theorem dX3_lead_88 : decode cX3_lead 88 = .ok (.iaload, 1) := by decide +kernel
theorem dX3_lead_89 : decode cX3_lead 89 = .ok (.istore 4, 2) := by decide +kernel
theorem dX3_lead_91 : decode cX3_lead 91 = .ok (.aload_n 0, 1) := by decide +kernel
theorem dX3_lead_92 : decode cX3_lead 92 = .ok (.getfield 21, 3) := by decide +kernel
theorem dX3_lead_95 : decode cX3_lead 95 = .ok (.iload_n 1, 1) := by decide +kernel
theorem dX3_lead_96 : decode cX3_lead 96 = .ok (.iload_n 2, 1) := by decide +kernel
theorem dX3_lead_97 : decode cX3_lead 97 = .ok (.iastore, 1) := by decide +kernel
theorem dX3_lead_98 : decode cX3_lead 98 = .ok (.iload 4, 2) := by decide +kernel
theorem dX3_lead_100 : decode cX3_lead 100 = .ok (.ireturn, 1) := by decide +kernel
theorem dX3_fall_0 : decode cX3_fall 0 = .ok (.aload_n 0, 1) := by decide +kernel
theorem dX3_fall_1 : decode cX3_fall 1 = .ok (.iconst 0, 1) := by decide +kernel
theorem dX3_fall_2 : decode cX3_fall 2 = .ok (.putfield 1, 3) := by decide +kernel
theorem dX3_fall_5 : decode cX3_fall 5 = .ok (.aload_n 0, 1) := by decide +kernel
theorem dX3_fall_6 : decode cX3_fall 6 = .ok (.iload_n 1, 1) := by decide +kernel
theorem dX3_fall_7 : decode cX3_fall 7 = .ok (.invokevirtual 82, 3) := by decide +kernel
theorem dX3_fall_10 : decode cX3_fall 10 = .ok (.ifCond .ne 6, 3) := by decide +kernel
theorem dX3_fall_13 : decode cX3_fall 13 = .ok (.bipush (-2), 2) := by decide +kernel
theorem dX3_fall_15 : decode cX3_fall 15 = .ok (.ireturn, 1) := by decide +kernel
theorem dX3_fall_16 : decode cX3_fall 16 = .ok (.aload_n 0, 1) := by decide +kernel
theorem dX3_fall_17 : decode cX3_fall 17 = .ok (.getfield 13, 3) := by decide +kernel
theorem dX3_fall_20 : decode cX3_fall 20 = .ok (.iload_n 1, 1) := by decide +kernel
theorem dX3_fall_21 : decode cX3_fall 21 = .ok (.baload, 1) := by decide +kernel
theorem dX3_fall_22 : decode cX3_fall 22 = .ok (.ifCond .eq 7, 3) := by decide +kernel
theorem dX3_fall_25 : decode cX3_fall 25 = .ok (.iconst 0, 1) := by decide +kernel
theorem dX3_fall_26 : decode cX3_fall 26 = .ok (.goto 4, 3) := by decide +kernel
theorem dX3_fall_29 : decode cX3_fall 29 = .ok (.iconst 1, 1) := by decide +kernel
theorem dX3_fall_30 : decode cX3_fall 30 = .ok (.istore_n 2, 1) := by decide +kernel
theorem dX3_fall_31 : decode cX3_fall 31 = .ok (.aload_n 0, 1) := by decide +kernel
theorem dX3_fall_32 : decode cX3_fall 32 = .ok (.getfield 13, 3) := by decide +kernel
theorem dX3_fall_35 : decode cX3_fall 35 = .ok (.iload_n 1, 1) := by decide +kernel
theorem dX3_fall_36 : decode cX3_fall 36 = .ok (.iconst 1, 1) := by decide +kernel
theorem dX3_fall_37 : decode cX3_fall 37 = .ok (.bastore, 1) := by decide +kernel
theorem dX3_fall_38 : decode cX3_fall 38 = .ok (.iload_n 2, 1) := by decide +kernel
theorem dX3_fall_39 : decode cX3_fall 39 = .ok (.ireturn, 1) := by decide +kernel
theorem dX3_wish_0 : decode cX3_wish 0 = .ok (.aload_n 0, 1) := by decide +kernel
theorem dX3_wish_1 : decode cX3_wish 1 = .ok (.iconst 0, 1) := by decide +kernel
theorem dX3_wish_2 : decode cX3_wish 2 = .ok (.putfield 1, 3) := by decide +kernel
theorem dX3_wish_5 : decode cX3_wish 5 = .ok (.aload_n 0, 1) := by decide +kernel
theorem dX3_wish_6 : decode cX3_wish 6 = .ok (.iload_n 1, 1) := by decide +kernel
theorem dX3_wish_7 : decode cX3_wish 7 = .ok (.invokevirtual 82, 3) := by decide +kernel
theorem dX3_wish_10 : decode cX3_wish 10 = .ok (.ifCond .eq 15, 3) := by decide +kernel
theorem dX3_wish_13 : decode cX3_wish 13 = .ok (.iload_n 2, 1) := by decide +kernel
theorem dX3_wish_14 : decode cX3_wish 14 = .ok (.i2l, 1) := by decide +kernel
theorem dX3_wish_15 : decode cX3_wish 15 = .ok (.lconst 0, 1) := by decide +kernel
theorem dX3_wish_16 : decode cX3_wish 16 = .ok (.ldc2_w 88, 3) := by decide +kernel
theorem dX3_wish_19 : decode cX3_wish 19 = .ok (.invokestatic 72, 3) := by decide +kernel
theorem dX3_wish_22 : decode cX3_wish 22 = .ok (.ifCond .ne 6, 3) := by decide +kernel
theorem dX3_wish_25 : decode cX3_wish 25 = .ok (.bipush (-2), 2) := by decide +kernel
theorem dX3_wish_27 : decode cX3_wish 27 = .ok (.ireturn, 1) := by decide +kernel
theorem dX3_wish_28 : decode cX3_wish 28 = .ok (.aload_n 0, 1) := by decide +kernel
theorem dX3_wish_29 : decode cX3_wish 29 = .ok (.getfield 17, 3) := by decide +kernel
theorem dX3_wish_32 : decode cX3_wish 32 = .ok (.iload_n 1, 1) := by decide +kernel
theorem dX3_wish_33 : decode cX3_wish 33 = .ok (.iaload, 1) := by decide +kernel
theorem dX3_wish_34 : decode cX3_wish 34 = .ok (.iload_n 2, 1) := by decide +kernel
theorem dX3_wish_35 : decode cX3_wish 35 = .ok (.iushr, 1) := by decide +kernel
theorem dX3_wish_36 : decode cX3_wish 36 = .ok (.iconst 1, 1) := by decide +kernel
theorem dX3_wish_37 : decode cX3_wish 37 = .ok (.iand, 1) := by decide +kernel
theorem dX3_wish_38 : decode cX3_wish 38 = .ok (.iconst 1, 1) := by decide +kernel
theorem dX3_wish_39 : decode cX3_wish 39 = .ok (.if_icmp .ne 7, 3) := by decide +kernel
theorem dX3_wish_42 : decode cX3_wish 42 = .ok (.iconst 0, 1) := by decide +kernel
theorem dX3_wish_43 : decode cX3_wish 43 = .ok (.goto 4, 3) := by decide +kernel
theorem dX3_wish_46 : decode cX3_wish 46 = .ok (.iconst 1, 1) := by decide +kernel
theorem dX3_wish_47 : decode cX3_wish 47 = .ok (.istore_n 3, 1) := by decide +kernel
theorem dX3_wish_48 : decode cX3_wish 48 = .ok (.aload_n 0, 1) := by decide +kernel
theorem dX3_wish_49 : decode cX3_wish 49 = .ok (.getfield 17, 3) := by decide +kernel
theorem dX3_wish_52 : decode cX3_wish 52 = .ok (.iload_n 1, 1) := by decide +kernel
theorem dX3_wish_53 : decode cX3_wish 53 = .ok (.dup2, 1) := by decide +kernel
theorem dX3_wish_54 : decode cX3_wish 54 = .ok (.iaload, 1) := by decide +kernel
theorem dX3_wish_55 : decode cX3_wish 55 = .ok (.iconst 1, 1) := by decide +kernel
theorem dX3_wish_56 : decode cX3_wish 56 = .ok (.iload_n 2, 1) := by decide +kernel
theorem dX3_wish_57 : decode cX3_wish 57 = .ok (.ishl, 1) := by decide +kernel
theorem dX3_wish_58 : decode cX3_wish 58 = .ok (.ior, 1) := by decide +kernel
theorem dX3_wish_59 : decode cX3_wish 59 = .ok (.iastore, 1) := by decide +kernel
theorem dX3_wish_60 : decode cX3_wish 60 = .ok (.iload_n 3, 1) := by decide +kernel
theorem dX3_wish_61 : decode cX3_wish 61 = .ok (.ireturn, 1) := by decide +kernel
theorem dX3_votesOf_0 : decode cX3_votesOf 0 = .ok (.iconst 0, 1) := by decide +kernel
theorem dX3_votesOf_1 : decode cX3_votesOf 1 = .ok (.istore_n 3, 1) := by decide +kernel
theorem dX3_votesOf_2 : decode cX3_votesOf 2 = .ok (.iconst 0, 1) := by decide +kernel
theorem dX3_votesOf_3 : decode cX3_votesOf 3 = .ok (.istore 4, 2) := by decide +kernel
theorem dX3_votesOf_5 : decode cX3_votesOf 5 = .ok (.iload 4, 2) := by decide +kernel
theorem dX3_votesOf_7 : decode cX3_votesOf 7 = .ok (.aload_n 0, 1) := by decide +kernel
theorem dX3_votesOf_8 : decode cX3_votesOf 8 = .ok (.getfield 69, 3) := by decide +kernel
theorem dX3_votesOf_11 : decode cX3_votesOf 11 = .ok (.if_icmp .ge 36, 3) := by decide +kernel
theorem dX3_votesOf_14 : decode cX3_votesOf 14 = .ok (.iload_n 3, 1) := by decide +kernel
theorem dX3_votesOf_15 : decode cX3_votesOf 15 = .ok (.aload_n 0, 1) := by decide +kernel
theorem dX3_votesOf_16 : decode cX3_votesOf 16 = .ok (.getfield 42, 3) := by decide +kernel
theorem dX3_votesOf_19 : decode cX3_votesOf 19 = .ok (.bipush 10, 2) := by decide +kernel
theorem dX3_votesOf_21 : decode cX3_votesOf 21 = .ok (.iload_n 2, 1) := by decide +kernel
theorem dX3_votesOf_22 : decode cX3_votesOf 22 = .ok (.iload 4, 2) := by decide +kernel
theorem dX3_votesOf_24 : decode cX3_votesOf 24 = .ok (.invokestatic 90, 3) := by decide +kernel
theorem dX3_votesOf_27 : decode cX3_votesOf 27 = .ok (.imul, 1) := by decide +kernel
theorem dX3_votesOf_28 : decode cX3_votesOf 28 = .ok (.iload_n 1, 1) := by decide +kernel
theorem dX3_votesOf_29 : decode cX3_votesOf 29 = .ok (.iadd, 1) := by decide +kernel
theorem dX3_votesOf_30 : decode cX3_votesOf 30 = .ok (.baload, 1) := by decide +kernel
theorem dX3_votesOf_31 : decode cX3_votesOf 31 = .ok (.ifCond .eq 7, 3) := by decide +kernel
theorem dX3_votesOf_34 : decode cX3_votesOf 34 = .ok (.iconst 1, 1) := by decide +kernel
theorem dX3_votesOf_35 : decode cX3_votesOf 35 = .ok (.goto 4, 3) := by decide +kernel
theorem dX3_votesOf_38 : decode cX3_votesOf 38 = .ok (.iconst 0, 1) := by decide +kernel
theorem dX3_votesOf_39 : decode cX3_votesOf 39 = .ok (.iadd, 1) := by decide +kernel
theorem dX3_votesOf_40 : decode cX3_votesOf 40 = .ok (.istore_n 3, 1) := by decide +kernel
theorem dX3_votesOf_41 : decode cX3_votesOf 41 = .ok (.iinc 4 1, 3) := by decide +kernel
theorem dX3_votesOf_44 : decode cX3_votesOf 44 = .ok (.goto (-39), 3) := by decide +kernel
theorem dX3_votesOf_47 : decode cX3_votesOf 47 = .ok (.iload_n 3, 1) := by decide +kernel
theorem dX3_votesOf_48 : decode cX3_votesOf 48 = .ok (.ireturn, 1) := by decide +kernel
theorem dX3_workOut_0 : decode cX3_workOut 0 = .ok (.aload_n 0, 1) := by decide +kernel
theorem dX3_workOut_1 : decode cX3_workOut 1 = .ok (.iconst 0, 1) := by decide +kernel
theorem dX3_workOut_2 : decode cX3_workOut 2 = .ok (.putfield 94, 3) := by decide +kernel
theorem dX3_workOut_5 : decode cX3_workOut 5 = .ok (.aload_n 0, 1) := by decide +kernel
theorem dX3_workOut_6 : decode cX3_workOut 6 = .ok (.iconst 0, 1) := by decide +kernel
theorem dX3_workOut_7 : decode cX3_workOut 7 = .ok (.putfield 97, 3) := by decide +kernel
theorem dX3_workOut_10 : decode cX3_workOut 10 = .ok (.iconst 0, 1) := by decide +kernel
theorem dX3_workOut_11 : decode cX3_workOut 11 = .ok (.istore_n 2, 1) := by decide +kernel
theorem dX3_workOut_12 : decode cX3_workOut 12 = .ok (.iload_n 2, 1) := by decide +kernel
theorem dX3_workOut_13 : decode cX3_workOut 13 = .ok (.aload_n 0, 1) := by decide +kernel
theorem dX3_workOut_14 : decode cX3_workOut 14 = .ok (.getfield 24, 3) := by decide +kernel
theorem dX3_workOut_17 : decode cX3_workOut 17 = .ok (.if_icmp .ge 194, 3) := by decide +kernel
theorem dX3_workOut_20 : decode cX3_workOut 20 = .ok (.aload_n 0, 1) := by decide +kernel
theorem dX3_workOut_21 : decode cX3_workOut 21 = .ok (.getfield 54, 3) := by decide +kernel
theorem dX3_workOut_24 : decode cX3_workOut 24 = .ok (.iload_n 2, 1) := by decide +kernel
theorem dX3_workOut_25 : decode cX3_workOut 25 = .ok (.iload_n 2, 1) := by decide +kernel
theorem dX3_workOut_26 : decode cX3_workOut 26 = .ok (.ifCond .eq 35, 3) := by decide +kernel
theorem dX3_workOut_29 : decode cX3_workOut 29 = .ok (.aload_n 0, 1) := by decide +kernel
theorem dX3_workOut_30 : decode cX3_workOut 30 = .ok (.getfield 42, 3) := by decide +kernel
theorem dX3_workOut_33 : decode cX3_workOut 33 = .ok (.bipush 10, 2) := by decide +kernel
theorem dX3_workOut_35 : decode cX3_workOut 35 = .ok (.iload_n 2, 1) := by decide +kernel
theorem dX3_workOut_36 : decode cX3_workOut 36 = .ok (.iconst (-1), 1) := by decide +kernel
theorem dX3_workOut_37 : decode cX3_workOut 37 = .ok (.invokestatic 90, 3) := by decide +kernel
theorem dX3_workOut_40 : decode cX3_workOut 40 = .ok (.imul, 1) := by decide +kernel
theorem dX3_workOut_41 : decode cX3_workOut 41 = .ok (.iload_n 1, 1) := by decide +kernel
theorem dX3_workOut_42 : decode cX3_workOut 42 = .ok (.iadd, 1) := by decide +kernel
theorem dX3_workOut_43 : decode cX3_workOut 43 = .ok (.baload, 1) := by decide +kernel
theorem dX3_workOut_44 : decode cX3_workOut 44 = .ok (.ifCond .eq 21, 3) := by decide +kernel
theorem dX3_workOut_47 : decode cX3_workOut 47 = .ok (.aload_n 0, 1) := by decide +kernel
theorem dX3_workOut_48 : decode cX3_workOut 48 = .ok (.getfield 54, 3) := by decide +kernel
theorem dX3_workOut_51 : decode cX3_workOut 51 = .ok (.aload_n 0, 1) := by decide +kernel
theorem dX3_workOut_52 : decode cX3_workOut 52 = .ok (.getfield 27, 3) := by decide +kernel
theorem dX3_workOut_55 : decode cX3_workOut 55 = .ok (.iload_n 2, 1) := by decide +kernel
theorem dX3_workOut_56 : decode cX3_workOut 56 = .ok (.iaload, 1) := by decide +kernel
theorem dX3_workOut_57 : decode cX3_workOut 57 = .ok (.baload, 1) := by decide +kernel
theorem dX3_workOut_58 : decode cX3_workOut 58 = .ok (.ifCond .eq 7, 3) := by decide +kernel
theorem dX3_workOut_61 : decode cX3_workOut 61 = .ok (.iconst 1, 1) := by decide +kernel
theorem dX3_workOut_62 : decode cX3_workOut 62 = .ok (.goto 4, 3) := by decide +kernel
theorem dX3_workOut_65 : decode cX3_workOut 65 = .ok (.iconst 0, 1) := by decide +kernel
theorem dX3_workOut_66 : decode cX3_workOut 66 = .ok (.bastore, 1) := by decide +kernel
theorem dX3_workOut_67 : decode cX3_workOut 67 = .ok (.aload_n 0, 1) := by decide +kernel
theorem dX3_workOut_68 : decode cX3_workOut 68 = .ok (.getfield 57, 3) := by decide +kernel
theorem dX3_workOut_71 : decode cX3_workOut 71 = .ok (.iload_n 2, 1) := by decide +kernel
theorem dX3_workOut_72 : decode cX3_workOut 72 = .ok (.iload_n 2, 1) := by decide +kernel
theorem dX3_workOut_73 : decode cX3_workOut 73 = .ok (.ifCond .eq 43, 3) := by decide +kernel
theorem dX3_workOut_76 : decode cX3_workOut 76 = .ok (.aload_n 0, 1) := by decide +kernel
theorem dX3_workOut_77 : decode cX3_workOut 77 = .ok (.getfield 54, 3) := by decide +kernel
theorem dX3_workOut_80 : decode cX3_workOut 80 = .ok (.iload_n 2, 1) := by decide +kernel
theorem dX3_workOut_81 : decode cX3_workOut 81 = .ok (.baload, 1) := by decide +kernel
theorem dX3_workOut_82 : decode cX3_workOut 82 = .ok (.ifCond .eq 38, 3) := by decide +kernel
theorem dX3_workOut_85 : decode cX3_workOut 85 = .ok (.aload_n 0, 1) := by decide +kernel
theorem dX3_workOut_86 : decode cX3_workOut 86 = .ok (.getfield 57, 3) := by decide +kernel
theorem dX3_workOut_89 : decode cX3_workOut 89 = .ok (.aload_n 0, 1) := by decide +kernel
theorem dX3_workOut_90 : decode cX3_workOut 90 = .ok (.getfield 27, 3) := by decide +kernel
theorem dX3_workOut_93 : decode cX3_workOut 93 = .ok (.iload_n 2, 1) := by decide +kernel
theorem dX3_workOut_94 : decode cX3_workOut 94 = .ok (.iaload, 1) := by decide +kernel
theorem dX3_workOut_95 : decode cX3_workOut 95 = .ok (.baload, 1) := by decide +kernel
theorem dX3_workOut_96 : decode cX3_workOut 96 = .ok (.ifCond .eq 24, 3) := by decide +kernel
theorem dX3_workOut_99 : decode cX3_workOut 99 = .ok (.iconst 3, 1) := by decide +kernel
theorem dX3_workOut_100 : decode cX3_workOut 100 = .ok (.aload_n 0, 1) := by decide +kernel
theorem dX3_workOut_101 : decode cX3_workOut 101 = .ok (.iload_n 1, 1) := by decide +kernel
theorem dX3_workOut_102 : decode cX3_workOut 102 = .ok (.iload_n 2, 1) := by decide +kernel
theorem dX3_workOut_103 : decode cX3_workOut 103 = .ok (.invokevirtual 100, 3) := by decide +kernel
theorem dX3_workOut_106 : decode cX3_workOut 106 = .ok (.imul, 1) := by decide +kernel
theorem dX3_workOut_107 : decode cX3_workOut 107 = .ok (.iconst 2, 1) := by decide +kernel
theorem dX3_workOut_108 : decode cX3_workOut 108 = .ok (.aload_n 0, 1) := by decide +kernel
theorem dX3_workOut_109 : decode cX3_workOut 109 = .ok (.getfield 69, 3) := by decide +kernel
theorem dX3_workOut_112 : decode cX3_workOut 112 = .ok (.imul, 1) := by decide +kernel
theorem dX3_workOut_113 : decode cX3_workOut 113 = .ok (.if_icmp .lt 7, 3) := by decide +kernel
theorem dX3_workOut_116 : decode cX3_workOut 116 = .ok (.iconst 1, 1) := by decide +kernel
theorem dX3_workOut_117 : decode cX3_workOut 117 = .ok (.goto 4, 3) := by decide +kernel
theorem dX3_workOut_120 : decode cX3_workOut 120 = .ok (.iconst 0, 1) := by decide +kernel
theorem dX3_workOut_121 : decode cX3_workOut 121 = .ok (.bastore, 1) := by decide +kernel
theorem dX3_workOut_122 : decode cX3_workOut 122 = .ok (.aload_n 0, 1) := by decide +kernel
theorem dX3_workOut_123 : decode cX3_workOut 123 = .ok (.getfield 60, 3) := by decide +kernel
theorem dX3_workOut_126 : decode cX3_workOut 126 = .ok (.iload_n 2, 1) := by decide +kernel
theorem dX3_workOut_127 : decode cX3_workOut 127 = .ok (.iload_n 2, 1) := by decide +kernel
theorem dX3_workOut_128 : decode cX3_workOut 128 = .ok (.ifCond .ne 7, 3) := by decide +kernel
theorem dX3_workOut_131 : decode cX3_workOut 131 = .ok (.iconst 1, 1) := by decide +kernel
theorem dX3_workOut_132 : decode cX3_workOut 132 = .ok (.goto 4, 3) := by decide +kernel
theorem dX3_workOut_135 : decode cX3_workOut 135 = .ok (.iconst 0, 1) := by decide +kernel
theorem dX3_workOut_136 : decode cX3_workOut 136 = .ok (.bastore, 1) := by decide +kernel
theorem dX3_workOut_137 : decode cX3_workOut 137 = .ok (.aload_n 0, 1) := by decide +kernel
theorem dX3_workOut_138 : decode cX3_workOut 138 = .ok (.getfield 57, 3) := by decide +kernel
theorem dX3_workOut_141 : decode cX3_workOut 141 = .ok (.iload_n 2, 1) := by decide +kernel
theorem dX3_workOut_142 : decode cX3_workOut 142 = .ok (.baload, 1) := by decide +kernel
theorem dX3_workOut_143 : decode cX3_workOut 143 = .ok (.ifCond .eq 62, 3) := by decide +kernel
theorem dX3_workOut_146 : decode cX3_workOut 146 = .ok (.aload_n 0, 1) := by decide +kernel
theorem dX3_workOut_147 : decode cX3_workOut 147 = .ok (.getfield 36, 3) := by decide +kernel
theorem dX3_workOut_150 : decode cX3_workOut 150 = .ok (.iload_n 2, 1) := by decide +kernel
theorem dX3_workOut_151 : decode cX3_workOut 151 = .ok (.iaload, 1) := by decide +kernel
theorem dX3_workOut_152 : decode cX3_workOut 152 = .ok (.aload_n 0, 1) := by decide +kernel
theorem dX3_workOut_153 : decode cX3_workOut 153 = .ok (.getfield 94, 3) := by decide +kernel
theorem dX3_workOut_156 : decode cX3_workOut 156 = .ok (.if_icmp .gt 34, 3) := by decide +kernel
theorem dX3_workOut_159 : decode cX3_workOut 159 = .ok (.aload_n 0, 1) := by decide +kernel
theorem dX3_workOut_160 : decode cX3_workOut 160 = .ok (.getfield 36, 3) := by decide +kernel
theorem dX3_workOut_163 : decode cX3_workOut 163 = .ok (.iload_n 2, 1) := by decide +kernel
theorem dX3_workOut_164 : decode cX3_workOut 164 = .ok (.iaload, 1) := by decide +kernel
theorem dX3_workOut_165 : decode cX3_workOut 165 = .ok (.aload_n 0, 1) := by decide +kernel
theorem dX3_workOut_166 : decode cX3_workOut 166 = .ok (.getfield 94, 3) := by decide +kernel
theorem dX3_workOut_169 : decode cX3_workOut 169 = .ok (.if_icmp .ne 36, 3) := by decide +kernel
theorem dX3_workOut_172 : decode cX3_workOut 172 = .ok (.aload_n 0, 1) := by decide +kernel
theorem dX3_workOut_173 : decode cX3_workOut 173 = .ok (.getfield 30, 3) := by decide +kernel
theorem dX3_workOut_176 : decode cX3_workOut 176 = .ok (.iload_n 2, 1) := by decide +kernel
theorem dX3_workOut_177 : decode cX3_workOut 177 = .ok (.iaload, 1) := by decide +kernel
theorem dX3_workOut_178 : decode cX3_workOut 178 = .ok (.aload_n 0, 1) := by decide +kernel
theorem dX3_workOut_179 : decode cX3_workOut 179 = .ok (.getfield 30, 3) := by decide +kernel
theorem dX3_workOut_182 : decode cX3_workOut 182 = .ok (.aload_n 0, 1) := by decide +kernel
theorem dX3_workOut_183 : decode cX3_workOut 183 = .ok (.getfield 97, 3) := by decide +kernel
theorem dX3_workOut_186 : decode cX3_workOut 186 = .ok (.iaload, 1) := by decide +kernel
theorem dX3_workOut_187 : decode cX3_workOut 187 = .ok (.if_icmp .le 18, 3) := by decide +kernel
theorem dX3_workOut_190 : decode cX3_workOut 190 = .ok (.aload_n 0, 1) := by decide +kernel
theorem dX3_workOut_191 : decode cX3_workOut 191 = .ok (.aload_n 0, 1) := by decide +kernel
theorem dX3_workOut_192 : decode cX3_workOut 192 = .ok (.getfield 36, 3) := by decide +kernel
theorem dX3_workOut_195 : decode cX3_workOut 195 = .ok (.iload_n 2, 1) := by decide +kernel
theorem dX3_workOut_196 : decode cX3_workOut 196 = .ok (.iaload, 1) := by decide +kernel
theorem dX3_workOut_197 : decode cX3_workOut 197 = .ok (.putfield 94, 3) := by decide +kernel
theorem dX3_workOut_200 : decode cX3_workOut 200 = .ok (.aload_n 0, 1) := by decide +kernel
theorem dX3_workOut_201 : decode cX3_workOut 201 = .ok (.iload_n 2, 1) := by decide +kernel
theorem dX3_workOut_202 : decode cX3_workOut 202 = .ok (.putfield 97, 3) := by decide +kernel
theorem dX3_workOut_205 : decode cX3_workOut 205 = .ok (.iinc 2 1, 3) := by decide +kernel
theorem dX3_workOut_208 : decode cX3_workOut 208 = .ok (.goto (-196), 3) := by decide +kernel
theorem dX3_workOut_211 : decode cX3_workOut 211 = .ok (.iconst 1, 1) := by decide +kernel
theorem dX3_workOut_212 : decode cX3_workOut 212 = .ok (.istore_n 2, 1) := by decide +kernel
theorem dX3_workOut_213 : decode cX3_workOut 213 = .ok (.iload_n 2, 1) := by decide +kernel
theorem dX3_workOut_214 : decode cX3_workOut 214 = .ok (.aload_n 0, 1) := by decide +kernel
theorem dX3_workOut_215 : decode cX3_workOut 215 = .ok (.getfield 24, 3) := by decide +kernel
theorem dX3_workOut_218 : decode cX3_workOut 218 = .ok (.if_icmp .ge 103, 3) := by decide +kernel
theorem dX3_workOut_221 : decode cX3_workOut 221 = .ok (.aload_n 0, 1) := by decide +kernel
theorem dX3_workOut_222 : decode cX3_workOut 222 = .ok (.getfield 27, 3) := by decide +kernel
theorem dX3_workOut_225 : decode cX3_workOut 225 = .ok (.iload_n 2, 1) := by decide +kernel
theorem dX3_workOut_226 : decode cX3_workOut 226 = .ok (.iaload, 1) := by decide +kernel
theorem dX3_workOut_227 : decode cX3_workOut 227 = .ok (.istore_n 3, 1) := by decide +kernel
theorem dX3_workOut_228 : decode cX3_workOut 228 = .ok (.aload_n 0, 1) := by decide +kernel
theorem dX3_workOut_229 : decode cX3_workOut 229 = .ok (.getfield 27, 3) := by decide +kernel
theorem dX3_workOut_232 : decode cX3_workOut 232 = .ok (.iload_n 3, 1) := by decide +kernel
theorem dX3_workOut_233 : decode cX3_workOut 233 = .ok (.iaload, 1) := by decide +kernel
theorem dX3_workOut_234 : decode cX3_workOut 234 = .ok (.istore 4, 2) := by decide +kernel
theorem dX3_workOut_236 : decode cX3_workOut 236 = .ok (.aload_n 0, 1) := by decide +kernel
theorem dX3_workOut_237 : decode cX3_workOut 237 = .ok (.getfield 57, 3) := by decide +kernel
theorem dX3_workOut_240 : decode cX3_workOut 240 = .ok (.iload_n 2, 1) := by decide +kernel
theorem dX3_workOut_241 : decode cX3_workOut 241 = .ok (.baload, 1) := by decide +kernel
theorem dX3_workOut_242 : decode cX3_workOut 242 = .ok (.ifCond .eq 73, 3) := by decide +kernel
theorem dX3_workOut_245 : decode cX3_workOut 245 = .ok (.iload 4, 2) := by decide +kernel
theorem dX3_workOut_247 : decode cX3_workOut 247 = .ok (.iconst (-1), 1) := by decide +kernel
theorem dX3_workOut_248 : decode cX3_workOut 248 = .ok (.if_icmp .eq 67, 3) := by decide +kernel
theorem dX3_workOut_251 : decode cX3_workOut 251 = .ok (.aload_n 0, 1) := by decide +kernel
theorem dX3_workOut_252 : decode cX3_workOut 252 = .ok (.getfield 30, 3) := by decide +kernel
theorem dX3_workOut_255 : decode cX3_workOut 255 = .ok (.iload_n 3, 1) := by decide +kernel
theorem dX3_workOut_256 : decode cX3_workOut 256 = .ok (.iaload, 1) := by decide +kernel
theorem dX3_workOut_257 : decode cX3_workOut 257 = .ok (.aload_n 0, 1) := by decide +kernel
theorem dX3_workOut_258 : decode cX3_workOut 258 = .ok (.getfield 30, 3) := by decide +kernel
theorem dX3_workOut_261 : decode cX3_workOut 261 = .ok (.iload 4, 2) := by decide +kernel
theorem dX3_workOut_263 : decode cX3_workOut 263 = .ok (.iaload, 1) := by decide +kernel
theorem dX3_workOut_264 : decode cX3_workOut 264 = .ok (.iconst 1, 1) := by decide +kernel
theorem dX3_workOut_265 : decode cX3_workOut 265 = .ok (.iadd, 1) := by decide +kernel
theorem dX3_workOut_266 : decode cX3_workOut 266 = .ok (.if_icmp .ne 49, 3) := by decide +kernel
theorem dX3_workOut_269 : decode cX3_workOut 269 = .ok (.aload_n 0, 1) := by decide +kernel
theorem dX3_workOut_270 : decode cX3_workOut 270 = .ok (.getfield 30, 3) := by decide +kernel
theorem dX3_workOut_273 : decode cX3_workOut 273 = .ok (.iload_n 2, 1) := by decide +kernel
theorem dX3_workOut_274 : decode cX3_workOut 274 = .ok (.iaload, 1) := by decide +kernel
theorem dX3_workOut_275 : decode cX3_workOut 275 = .ok (.aload_n 0, 1) := by decide +kernel
theorem dX3_workOut_276 : decode cX3_workOut 276 = .ok (.getfield 30, 3) := by decide +kernel
theorem dX3_workOut_279 : decode cX3_workOut 279 = .ok (.iload_n 3, 1) := by decide +kernel
theorem dX3_workOut_280 : decode cX3_workOut 280 = .ok (.iaload, 1) := by decide +kernel
theorem dX3_workOut_281 : decode cX3_workOut 281 = .ok (.iconst 1, 1) := by decide +kernel
theorem dX3_workOut_282 : decode cX3_workOut 282 = .ok (.iadd, 1) := by decide +kernel
theorem dX3_workOut_283 : decode cX3_workOut 283 = .ok (.if_icmp .ne 32, 3) := by decide +kernel
theorem dX3_workOut_286 : decode cX3_workOut 286 = .ok (.iload_n 3, 1) := by decide +kernel
theorem dX3_workOut_287 : decode cX3_workOut 287 = .ok (.istore 5, 2) := by decide +kernel
theorem dX3_workOut_289 : decode cX3_workOut 289 = .ok (.iload 5, 2) := by decide +kernel
theorem dX3_workOut_291 : decode cX3_workOut 291 = .ok (.iconst (-1), 1) := by decide +kernel
theorem dX3_workOut_292 : decode cX3_workOut 292 = .ok (.if_icmp .eq 23, 3) := by decide +kernel
theorem dX3_workOut_295 : decode cX3_workOut 295 = .ok (.aload_n 0, 1) := by decide +kernel
theorem dX3_workOut_296 : decode cX3_workOut 296 = .ok (.getfield 60, 3) := by decide +kernel
theorem dX3_workOut_299 : decode cX3_workOut 299 = .ok (.iload 5, 2) := by decide +kernel
theorem dX3_workOut_301 : decode cX3_workOut 301 = .ok (.iconst 1, 1) := by decide +kernel
theorem dX3_workOut_302 : decode cX3_workOut 302 = .ok (.bastore, 1) := by decide +kernel
theorem dX3_workOut_303 : decode cX3_workOut 303 = .ok (.aload_n 0, 1) := by decide +kernel
theorem dX3_workOut_304 : decode cX3_workOut 304 = .ok (.getfield 27, 3) := by decide +kernel
theorem dX3_workOut_307 : decode cX3_workOut 307 = .ok (.iload 5, 2) := by decide +kernel
theorem dX3_workOut_309 : decode cX3_workOut 309 = .ok (.iaload, 1) := by decide +kernel
theorem dX3_workOut_310 : decode cX3_workOut 310 = .ok (.istore 5, 2) := by decide +kernel
theorem dX3_workOut_312 : decode cX3_workOut 312 = .ok (.goto (-23), 3) := by decide +kernel
theorem dX3_workOut_315 : decode cX3_workOut 315 = .ok (.iinc 2 1, 3) := by decide +kernel
theorem dX3_workOut_318 : decode cX3_workOut 318 = .ok (.goto (-105), 3) := by decide +kernel
theorem dX3_workOut_321 : decode cX3_workOut 321 = .ok (.aload_n 0, 1) := by decide +kernel
theorem dX3_workOut_322 : decode cX3_workOut 322 = .ok (.iconst 0, 1) := by decide +kernel
theorem dX3_workOut_323 : decode cX3_workOut 323 = .ok (.putfield 103, 3) := by decide +kernel
theorem dX3_workOut_326 : decode cX3_workOut 326 = .ok (.iconst 0, 1) := by decide +kernel
theorem dX3_workOut_327 : decode cX3_workOut 327 = .ok (.istore_n 2, 1) := by decide +kernel
theorem dX3_workOut_328 : decode cX3_workOut 328 = .ok (.iload_n 2, 1) := by decide +kernel
theorem dX3_workOut_329 : decode cX3_workOut 329 = .ok (.aload_n 0, 1) := by decide +kernel
theorem dX3_workOut_330 : decode cX3_workOut 330 = .ok (.getfield 24, 3) := by decide +kernel
theorem dX3_workOut_333 : decode cX3_workOut 333 = .ok (.if_icmp .ge 48, 3) := by decide +kernel
theorem dX3_workOut_336 : decode cX3_workOut 336 = .ok (.aload_n 0, 1) := by decide +kernel
theorem dX3_workOut_337 : decode cX3_workOut 337 = .ok (.aload_n 0, 1) := by decide +kernel
theorem dX3_workOut_338 : decode cX3_workOut 338 = .ok (.getfield 60, 3) := by decide +kernel
theorem dX3_workOut_341 : decode cX3_workOut 341 = .ok (.iload_n 2, 1) := by decide +kernel
theorem dX3_workOut_342 : decode cX3_workOut 342 = .ok (.baload, 1) := by decide +kernel
theorem dX3_workOut_343 : decode cX3_workOut 343 = .ok (.ifCond .eq 25, 3) := by decide +kernel
theorem dX3_workOut_346 : decode cX3_workOut 346 = .ok (.aload_n 0, 1) := by decide +kernel
theorem dX3_workOut_347 : decode cX3_workOut 347 = .ok (.getfield 36, 3) := by decide +kernel
theorem dX3_workOut_350 : decode cX3_workOut 350 = .ok (.iload_n 2, 1) := by decide +kernel
theorem dX3_workOut_351 : decode cX3_workOut 351 = .ok (.iaload, 1) := by decide +kernel
theorem dX3_workOut_352 : decode cX3_workOut 352 = .ok (.aload_n 0, 1) := by decide +kernel
theorem dX3_workOut_353 : decode cX3_workOut 353 = .ok (.getfield 36, 3) := by decide +kernel
theorem dX3_workOut_356 : decode cX3_workOut 356 = .ok (.aload_n 0, 1) := by decide +kernel
theorem dX3_workOut_357 : decode cX3_workOut 357 = .ok (.getfield 103, 3) := by decide +kernel
theorem dX3_workOut_360 : decode cX3_workOut 360 = .ok (.iaload, 1) := by decide +kernel
theorem dX3_workOut_361 : decode cX3_workOut 361 = .ok (.if_icmp .le 7, 3) := by decide +kernel
theorem dX3_workOut_364 : decode cX3_workOut 364 = .ok (.iload_n 2, 1) := by decide +kernel
theorem dX3_workOut_365 : decode cX3_workOut 365 = .ok (.goto 7, 3) := by decide +kernel
theorem dX3_workOut_368 : decode cX3_workOut 368 = .ok (.aload_n 0, 1) := by decide +kernel
theorem dX3_workOut_369 : decode cX3_workOut 369 = .ok (.getfield 103, 3) := by decide +kernel
theorem dX3_workOut_372 : decode cX3_workOut 372 = .ok (.putfield 103, 3) := by decide +kernel
theorem dX3_workOut_375 : decode cX3_workOut 375 = .ok (.iinc 2 1, 3) := by decide +kernel
theorem dX3_workOut_378 : decode cX3_workOut 378 = .ok (.goto (-50), 3) := by decide +kernel
theorem dX3_workOut_381 : decode cX3_workOut 381 = .ok (.return_, 1) := by decide +kernel
theorem dX3_gain_0 : decode cX3_gain 0 = .ok (.aload_n 0, 1) := by decide +kernel
theorem dX3_gain_1 : decode cX3_gain 1 = .ok (.getfield 42, 3) := by decide +kernel
theorem dX3_gain_4 : decode cX3_gain 4 = .ok (.bipush 10, 2) := by decide +kernel
theorem dX3_gain_6 : decode cX3_gain 6 = .ok (.iload_n 2, 1) := by decide +kernel
theorem dX3_gain_7 : decode cX3_gain 7 = .ok (.imul, 1) := by decide +kernel
theorem dX3_gain_8 : decode cX3_gain 8 = .ok (.iload_n 1, 1) := by decide +kernel
theorem dX3_gain_9 : decode cX3_gain 9 = .ok (.iadd, 1) := by decide +kernel
theorem dX3_gain_10 : decode cX3_gain 10 = .ok (.iconst 1, 1) := by decide +kernel
theorem dX3_gain_11 : decode cX3_gain 11 = .ok (.bastore, 1) := by decide +kernel
theorem dX3_gain_12 : decode cX3_gain 12 = .ok (.aload_n 0, 1) := by decide +kernel
theorem dX3_gain_13 : decode cX3_gain 13 = .ok (.getfield 45, 3) := by decide +kernel
theorem dX3_gain_16 : decode cX3_gain 16 = .ok (.bipush 10, 2) := by decide +kernel
theorem dX3_gain_18 : decode cX3_gain 18 = .ok (.iload_n 2, 1) := by decide +kernel
theorem dX3_gain_19 : decode cX3_gain 19 = .ok (.imul, 1) := by decide +kernel
theorem dX3_gain_20 : decode cX3_gain 20 = .ok (.iload_n 1, 1) := by decide +kernel
theorem dX3_gain_21 : decode cX3_gain 21 = .ok (.iadd, 1) := by decide +kernel
theorem dX3_gain_22 : decode cX3_gain 22 = .ok (.iconst 0, 1) := by decide +kernel
theorem dX3_gain_23 : decode cX3_gain 23 = .ok (.bastore, 1) := by decide +kernel
theorem dX3_gain_24 : decode cX3_gain 24 = .ok (.iload_n 2, 1) := by decide +kernel
theorem dX3_gain_25 : decode cX3_gain 25 = .ok (.bipush 11, 2) := by decide +kernel
theorem dX3_gain_27 : decode cX3_gain 27 = .ok (.irem, 1) := by decide +kernel
theorem dX3_gain_28 : decode cX3_gain 28 = .ok (.ifCond .ne 31, 3) := by decide +kernel
theorem dX3_gain_31 : decode cX3_gain 31 = .ok (.aload_n 0, 1) := by decide +kernel
theorem dX3_gain_32 : decode cX3_gain 32 = .ok (.dup, 1) := by decide +kernel
theorem dX3_gain_33 : decode cX3_gain 33 = .ok (.getfield 106, 3) := by decide +kernel
theorem dX3_gain_36 : decode cX3_gain 36 = .ok (.iconst 1, 1) := by decide +kernel
theorem dX3_gain_37 : decode cX3_gain 37 = .ok (.iadd, 1) := by decide +kernel
theorem dX3_gain_38 : decode cX3_gain 38 = .ok (.putfield 106, 3) := by decide +kernel
theorem dX3_gain_41 : decode cX3_gain 41 = .ok (.aload_n 0, 1) := by decide +kernel
theorem dX3_gain_42 : decode cX3_gain 42 = .ok (.getfield 48, 3) := by decide +kernel
theorem dX3_gain_45 : decode cX3_gain 45 = .ok (.bipush 10, 2) := by decide +kernel
theorem dX3_gain_47 : decode cX3_gain 47 = .ok (.iload_n 2, 1) := by decide +kernel
theorem dX3_gain_48 : decode cX3_gain 48 = .ok (.bipush 11, 2) := by decide +kernel
theorem dX3_gain_50 : decode cX3_gain 50 = .ok (.idiv, 1) := by decide +kernel
theorem dX3_gain_51 : decode cX3_gain 51 = .ok (.imul, 1) := by decide +kernel
theorem dX3_gain_52 : decode cX3_gain 52 = .ok (.iload_n 1, 1) := by decide +kernel
theorem dX3_gain_53 : decode cX3_gain 53 = .ok (.iadd, 1) := by decide +kernel
theorem dX3_gain_54 : decode cX3_gain 54 = .ok (.aload_n 0, 1) := by decide +kernel
theorem dX3_gain_55 : decode cX3_gain 55 = .ok (.getfield 106, 3) := by decide +kernel
theorem dX3_gain_58 : decode cX3_gain 58 = .ok (.iastore, 1) := by decide +kernel
theorem dX3_gain_59 : decode cX3_gain 59 = .ok (.iconst 0, 1) := by decide +kernel
theorem dX3_gain_60 : decode cX3_gain 60 = .ok (.istore_n 3, 1) := by decide +kernel
theorem dX3_gain_61 : decode cX3_gain 61 = .ok (.iload_n 3, 1) := by decide +kernel
theorem dX3_gain_62 : decode cX3_gain 62 = .ok (.aload_n 0, 1) := by decide +kernel
theorem dX3_gain_63 : decode cX3_gain 63 = .ok (.getfield 69, 3) := by decide +kernel
theorem dX3_gain_66 : decode cX3_gain 66 = .ok (.if_icmp .ge 48, 3) := by decide +kernel
theorem dX3_gain_69 : decode cX3_gain 69 = .ok (.aload_n 0, 1) := by decide +kernel
theorem dX3_gain_70 : decode cX3_gain 70 = .ok (.getfield 13, 3) := by decide +kernel
theorem dX3_gain_73 : decode cX3_gain 73 = .ok (.iload_n 1, 1) := by decide +kernel
theorem dX3_gain_74 : decode cX3_gain 74 = .ok (.baload, 1) := by decide +kernel
theorem dX3_gain_75 : decode cX3_gain 75 = .ok (.ifCond .ne 39, 3) := by decide +kernel
theorem dX3_gain_78 : decode cX3_gain 78 = .ok (.aload_n 0, 1) := by decide +kernel
theorem dX3_gain_79 : decode cX3_gain 79 = .ok (.getfield 45, 3) := by decide +kernel
theorem dX3_gain_82 : decode cX3_gain 82 = .ok (.bipush 10, 2) := by decide +kernel
theorem dX3_gain_84 : decode cX3_gain 84 = .ok (.iload_n 2, 1) := by decide +kernel
theorem dX3_gain_85 : decode cX3_gain 85 = .ok (.imul, 1) := by decide +kernel
theorem dX3_gain_86 : decode cX3_gain 86 = .ok (.iload_n 3, 1) := by decide +kernel
theorem dX3_gain_87 : decode cX3_gain 87 = .ok (.iadd, 1) := by decide +kernel
theorem dX3_gain_88 : decode cX3_gain 88 = .ok (.aload_n 0, 1) := by decide +kernel
theorem dX3_gain_89 : decode cX3_gain 89 = .ok (.getfield 42, 3) := by decide +kernel
theorem dX3_gain_92 : decode cX3_gain 92 = .ok (.bipush 10, 2) := by decide +kernel
theorem dX3_gain_94 : decode cX3_gain 94 = .ok (.iload_n 2, 1) := by decide +kernel
theorem dX3_gain_95 : decode cX3_gain 95 = .ok (.imul, 1) := by decide +kernel
theorem dX3_gain_96 : decode cX3_gain 96 = .ok (.iload_n 3, 1) := by decide +kernel
theorem dX3_gain_97 : decode cX3_gain 97 = .ok (.iadd, 1) := by decide +kernel
theorem dX3_gain_98 : decode cX3_gain 98 = .ok (.baload, 1) := by decide +kernel
theorem dX3_gain_99 : decode cX3_gain 99 = .ok (.ifCond .ne 7, 3) := by decide +kernel
theorem dX3_gain_102 : decode cX3_gain 102 = .ok (.iconst 1, 1) := by decide +kernel
theorem dX3_gain_103 : decode cX3_gain 103 = .ok (.goto 4, 3) := by decide +kernel
theorem dX3_gain_106 : decode cX3_gain 106 = .ok (.iconst 0, 1) := by decide +kernel
theorem dX3_gain_107 : decode cX3_gain 107 = .ok (.bastore, 1) := by decide +kernel
theorem dX3_gain_108 : decode cX3_gain 108 = .ok (.iinc 3 1, 3) := by decide +kernel
theorem dX3_gain_111 : decode cX3_gain 111 = .ok (.goto (-50), 3) := by decide +kernel
theorem dX3_gain_114 : decode cX3_gain 114 = .ok (.return_, 1) := by decide +kernel
theorem dX3_look_0 : decode cX3_look 0 = .ok (.aload_n 0, 1) := by decide +kernel
theorem dX3_look_1 : decode cX3_look 1 = .ok (.getfield 13, 3) := by decide +kernel
theorem dX3_look_4 : decode cX3_look 4 = .ok (.iload_n 1, 1) := by decide +kernel
theorem dX3_look_5 : decode cX3_look 5 = .ok (.baload, 1) := by decide +kernel
theorem dX3_look_6 : decode cX3_look 6 = .ok (.ifCond .ne 28, 3) := by decide +kernel
theorem dX3_look_9 : decode cX3_look 9 = .ok (.aload_n 0, 1) := by decide +kernel
theorem dX3_look_10 : decode cX3_look 10 = .ok (.getfield 85, 3) := by decide +kernel
theorem dX3_look_13 : decode cX3_look 13 = .ok (.ifCond .eq 21, 3) := by decide +kernel
theorem dX3_look_16 : decode cX3_look 16 = .ok (.aload_n 0, 1) := by decide +kernel
theorem dX3_look_17 : decode cX3_look 17 = .ok (.getfield 51, 3) := by decide +kernel
theorem dX3_look_20 : decode cX3_look 20 = .ok (.bipush 41, 2) := by decide +kernel
theorem dX3_look_22 : decode cX3_look 22 = .ok (.iload_n 1, 1) := by decide +kernel
theorem dX3_look_23 : decode cX3_look 23 = .ok (.imul, 1) := by decide +kernel
theorem dX3_look_24 : decode cX3_look 24 = .ok (.aload_n 0, 1) := by decide +kernel
theorem dX3_look_25 : decode cX3_look 25 = .ok (.getfield 85, 3) := by decide +kernel
theorem dX3_look_28 : decode cX3_look 28 = .ok (.iadd, 1) := by decide +kernel
theorem dX3_look_29 : decode cX3_look 29 = .ok (.iaload, 1) := by decide +kernel
theorem dX3_look_30 : decode cX3_look 30 = .ok (.iconst (-1), 1) := by decide +kernel
theorem dX3_look_31 : decode cX3_look 31 = .ok (.if_icmp .eq 4, 3) := by decide +kernel
theorem dX3_look_34 : decode cX3_look 34 = .ok (.return_, 1) := by decide +kernel
theorem dX3_look_35 : decode cX3_look 35 = .ok (.iconst (-1), 1) := by decide +kernel
theorem dX3_look_36 : decode cX3_look 36 = .ok (.istore_n 2, 1) := by decide +kernel
theorem dX3_look_37 : decode cX3_look 37 = .ok (.iconst 1, 1) := by decide +kernel
theorem dX3_look_38 : decode cX3_look 38 = .ok (.istore_n 3, 1) := by decide +kernel
theorem dX3_look_39 : decode cX3_look 39 = .ok (.iload_n 3, 1) := by decide +kernel
theorem dX3_look_40 : decode cX3_look 40 = .ok (.aload_n 0, 1) := by decide +kernel
theorem dX3_look_41 : decode cX3_look 41 = .ok (.getfield 24, 3) := by decide +kernel
theorem dX3_look_44 : decode cX3_look 44 = .ok (.if_icmp .ge 72, 3) := by decide +kernel
theorem dX3_look_47 : decode cX3_look 47 = .ok (.aload_n 0, 1) := by decide +kernel
theorem dX3_look_48 : decode cX3_look 48 = .ok (.getfield 30, 3) := by decide +kernel
theorem dX3_look_51 : decode cX3_look 51 = .ok (.iload_n 3, 1) := by decide +kernel
theorem dX3_look_52 : decode cX3_look 52 = .ok (.iaload, 1) := by decide +kernel
theorem dX3_look_53 : decode cX3_look 53 = .ok (.aload_n 0, 1) := by decide +kernel
theorem dX3_look_54 : decode cX3_look 54 = .ok (.getfield 85, 3) := by decide +kernel
theorem dX3_look_57 : decode cX3_look 57 = .ok (.if_icmp .ne 53, 3) := by decide +kernel
theorem dX3_look_60 : decode cX3_look 60 = .ok (.aload_n 0, 1) := by decide +kernel
theorem dX3_look_61 : decode cX3_look 61 = .ok (.getfield 42, 3) := by decide +kernel
theorem dX3_look_64 : decode cX3_look 64 = .ok (.bipush 10, 2) := by decide +kernel
theorem dX3_look_66 : decode cX3_look 66 = .ok (.iload_n 3, 1) := by decide +kernel
theorem dX3_look_67 : decode cX3_look 67 = .ok (.iconst (-1), 1) := by decide +kernel
theorem dX3_look_68 : decode cX3_look 68 = .ok (.invokestatic 90, 3) := by decide +kernel
theorem dX3_look_71 : decode cX3_look 71 = .ok (.imul, 1) := by decide +kernel
theorem dX3_look_72 : decode cX3_look 72 = .ok (.iload_n 1, 1) := by decide +kernel
theorem dX3_look_73 : decode cX3_look 73 = .ok (.iadd, 1) := by decide +kernel
theorem dX3_look_74 : decode cX3_look 74 = .ok (.baload, 1) := by decide +kernel
theorem dX3_look_75 : decode cX3_look 75 = .ok (.ifCond .eq 35, 3) := by decide +kernel
theorem dX3_look_78 : decode cX3_look 78 = .ok (.iload_n 2, 1) := by decide +kernel
theorem dX3_look_79 : decode cX3_look 79 = .ok (.iconst (-1), 1) := by decide +kernel
theorem dX3_look_80 : decode cX3_look 80 = .ok (.if_icmp .eq 28, 3) := by decide +kernel
theorem dX3_look_83 : decode cX3_look 83 = .ok (.aload_n 0, 1) := by decide +kernel
theorem dX3_look_84 : decode cX3_look 84 = .ok (.getfield 48, 3) := by decide +kernel
theorem dX3_look_87 : decode cX3_look 87 = .ok (.bipush 10, 2) := by decide +kernel
theorem dX3_look_89 : decode cX3_look 89 = .ok (.iload_n 3, 1) := by decide +kernel
theorem dX3_look_90 : decode cX3_look 90 = .ok (.imul, 1) := by decide +kernel
theorem dX3_look_91 : decode cX3_look 91 = .ok (.iload_n 1, 1) := by decide +kernel
theorem dX3_look_92 : decode cX3_look 92 = .ok (.iadd, 1) := by decide +kernel
theorem dX3_look_93 : decode cX3_look 93 = .ok (.iaload, 1) := by decide +kernel
theorem dX3_look_94 : decode cX3_look 94 = .ok (.aload_n 0, 1) := by decide +kernel
theorem dX3_look_95 : decode cX3_look 95 = .ok (.getfield 48, 3) := by decide +kernel
theorem dX3_look_98 : decode cX3_look 98 = .ok (.bipush 10, 2) := by decide +kernel
theorem dX3_look_100 : decode cX3_look 100 = .ok (.iload_n 2, 1) := by decide +kernel
theorem dX3_look_101 : decode cX3_look 101 = .ok (.imul, 1) := by decide +kernel
theorem dX3_look_102 : decode cX3_look 102 = .ok (.iload_n 1, 1) := by decide +kernel
theorem dX3_look_103 : decode cX3_look 103 = .ok (.iadd, 1) := by decide +kernel
theorem dX3_look_104 : decode cX3_look 104 = .ok (.iaload, 1) := by decide +kernel
theorem dX3_look_105 : decode cX3_look 105 = .ok (.if_icmp .ge 5, 3) := by decide +kernel
theorem dX3_look_108 : decode cX3_look 108 = .ok (.iload_n 3, 1) := by decide +kernel
theorem dX3_look_109 : decode cX3_look 109 = .ok (.istore_n 2, 1) := by decide +kernel
theorem dX3_look_110 : decode cX3_look 110 = .ok (.iinc 3 1, 3) := by decide +kernel
theorem dX3_look_113 : decode cX3_look 113 = .ok (.goto (-74), 3) := by decide +kernel
theorem dX3_look_116 : decode cX3_look 116 = .ok (.iload_n 2, 1) := by decide +kernel
theorem dX3_look_117 : decode cX3_look 117 = .ok (.iconst (-1), 1) := by decide +kernel
theorem dX3_look_118 : decode cX3_look 118 = .ok (.if_icmp .ne 4, 3) := by decide +kernel
theorem dX3_look_121 : decode cX3_look 121 = .ok (.return_, 1) := by decide +kernel
theorem dX3_look_122 : decode cX3_look 122 = .ok (.aload_n 0, 1) := by decide +kernel
theorem dX3_look_123 : decode cX3_look 123 = .ok (.iload_n 1, 1) := by decide +kernel
theorem dX3_look_124 : decode cX3_look 124 = .ok (.invokevirtual 109, 3) := by decide +kernel
theorem dX3_look_127 : decode cX3_look 127 = .ok (.aload_n 0, 1) := by decide +kernel
theorem dX3_look_128 : decode cX3_look 128 = .ok (.getfield 54, 3) := by decide +kernel
theorem dX3_look_131 : decode cX3_look 131 = .ok (.iload_n 2, 1) := by decide +kernel
theorem dX3_look_132 : decode cX3_look 132 = .ok (.baload, 1) := by decide +kernel
theorem dX3_look_133 : decode cX3_look 133 = .ok (.ifCond .eq 88, 3) := by decide +kernel
theorem dX3_look_136 : decode cX3_look 136 = .ok (.aload_n 0, 1) := by decide +kernel
theorem dX3_look_137 : decode cX3_look 137 = .ok (.getfield 57, 3) := by decide +kernel
theorem dX3_look_140 : decode cX3_look 140 = .ok (.aload_n 0, 1) := by decide +kernel
theorem dX3_look_141 : decode cX3_look 141 = .ok (.getfield 27, 3) := by decide +kernel
theorem dX3_look_144 : decode cX3_look 144 = .ok (.iload_n 2, 1) := by decide +kernel
theorem dX3_look_145 : decode cX3_look 145 = .ok (.iaload, 1) := by decide +kernel
theorem dX3_look_146 : decode cX3_look 146 = .ok (.baload, 1) := by decide +kernel
theorem dX3_look_147 : decode cX3_look 147 = .ok (.ifCond .eq 74, 3) := by decide +kernel
theorem dX3_look_150 : decode cX3_look 150 = .ok (.aload_n 0, 1) := by decide +kernel
theorem dX3_look_151 : decode cX3_look 151 = .ok (.getfield 36, 3) := by decide +kernel
theorem dX3_look_154 : decode cX3_look 154 = .ok (.aload_n 0, 1) := by decide +kernel
theorem dX3_look_155 : decode cX3_look 155 = .ok (.getfield 27, 3) := by decide +kernel
theorem dX3_look_158 : decode cX3_look 158 = .ok (.iload_n 2, 1) := by decide +kernel
theorem dX3_look_159 : decode cX3_look 159 = .ok (.iaload, 1) := by decide +kernel
theorem dX3_look_160 : decode cX3_look 160 = .ok (.iaload, 1) := by decide +kernel
theorem dX3_look_161 : decode cX3_look 161 = .ok (.aload_n 0, 1) := by decide +kernel
theorem dX3_look_162 : decode cX3_look 162 = .ok (.getfield 94, 3) := by decide +kernel
theorem dX3_look_165 : decode cX3_look 165 = .ok (.if_icmp .ne 56, 3) := by decide +kernel
theorem dX3_look_168 : decode cX3_look 168 = .ok (.aload_n 0, 1) := by decide +kernel
theorem dX3_look_169 : decode cX3_look 169 = .ok (.getfield 51, 3) := by decide +kernel
theorem dX3_look_172 : decode cX3_look 172 = .ok (.bipush 41, 2) := by decide +kernel
theorem dX3_look_174 : decode cX3_look 174 = .ok (.iload_n 1, 1) := by decide +kernel
theorem dX3_look_175 : decode cX3_look 175 = .ok (.imul, 1) := by decide +kernel
theorem dX3_look_176 : decode cX3_look 176 = .ok (.aload_n 0, 1) := by decide +kernel
theorem dX3_look_177 : decode cX3_look 177 = .ok (.getfield 85, 3) := by decide +kernel
theorem dX3_look_180 : decode cX3_look 180 = .ok (.iadd, 1) := by decide +kernel
theorem dX3_look_181 : decode cX3_look 181 = .ok (.iload_n 2, 1) := by decide +kernel
theorem dX3_look_182 : decode cX3_look 182 = .ok (.iastore, 1) := by decide +kernel
theorem dX3_look_183 : decode cX3_look 183 = .ok (.aload_n 0, 1) := by decide +kernel
theorem dX3_look_184 : decode cX3_look 184 = .ok (.dup, 1) := by decide +kernel
theorem dX3_look_185 : decode cX3_look 185 = .ok (.getfield 113, 3) := by decide +kernel
theorem dX3_look_188 : decode cX3_look 188 = .ok (.iconst 1, 1) := by decide +kernel
theorem dX3_look_189 : decode cX3_look 189 = .ok (.iadd, 1) := by decide +kernel
theorem dX3_look_190 : decode cX3_look 190 = .ok (.putfield 113, 3) := by decide +kernel
theorem dX3_look_193 : decode cX3_look 193 = .ok (.aload_n 0, 1) := by decide +kernel
theorem dX3_look_194 : decode cX3_look 194 = .ok (.getfield 42, 3) := by decide +kernel
theorem dX3_look_197 : decode cX3_look 197 = .ok (.bipush 10, 2) := by decide +kernel
theorem dX3_look_199 : decode cX3_look 199 = .ok (.iload_n 2, 1) := by decide +kernel
theorem dX3_look_200 : decode cX3_look 200 = .ok (.iload_n 1, 1) := by decide +kernel
theorem dX3_look_201 : decode cX3_look 201 = .ok (.invokestatic 90, 3) := by decide +kernel
theorem dX3_look_204 : decode cX3_look 204 = .ok (.imul, 1) := by decide +kernel
theorem dX3_look_205 : decode cX3_look 205 = .ok (.iload_n 1, 1) := by decide +kernel
theorem dX3_look_206 : decode cX3_look 206 = .ok (.iadd, 1) := by decide +kernel
theorem dX3_look_207 : decode cX3_look 207 = .ok (.baload, 1) := by decide +kernel
theorem dX3_look_208 : decode cX3_look 208 = .ok (.ifCond .ne 13, 3) := by decide +kernel
theorem dX3_look_211 : decode cX3_look 211 = .ok (.aload_n 0, 1) := by decide +kernel
theorem dX3_look_212 : decode cX3_look 212 = .ok (.iload_n 1, 1) := by decide +kernel
theorem dX3_look_213 : decode cX3_look 213 = .ok (.iload_n 2, 1) := by decide +kernel
theorem dX3_look_214 : decode cX3_look 214 = .ok (.iload_n 1, 1) := by decide +kernel
theorem dX3_look_215 : decode cX3_look 215 = .ok (.invokestatic 90, 3) := by decide +kernel
theorem dX3_look_218 : decode cX3_look 218 = .ok (.invokevirtual 116, 3) := by decide +kernel
theorem dX3_look_221 : decode cX3_look 221 = .ok (.return_, 1) := by decide +kernel
theorem dX3_newBlock_0 : decode cX3_newBlock 0 = .ok (.aload_n 0, 1) := by decide +kernel
theorem dX3_newBlock_1 : decode cX3_newBlock 1 = .ok (.getfield 24, 3) := by decide +kernel
theorem dX3_newBlock_4 : decode cX3_newBlock 4 = .ok (.istore 5, 2) := by decide +kernel
theorem dX3_newBlock_6 : decode cX3_newBlock 6 = .ok (.aload_n 0, 1) := by decide +kernel
theorem dX3_newBlock_7 : decode cX3_newBlock 7 = .ok (.dup, 1) := by decide +kernel
theorem dX3_newBlock_8 : decode cX3_newBlock 8 = .ok (.getfield 24, 3) := by decide +kernel
theorem dX3_newBlock_11 : decode cX3_newBlock 11 = .ok (.iconst 1, 1) := by decide +kernel
theorem dX3_newBlock_12 : decode cX3_newBlock 12 = .ok (.iadd, 1) := by decide +kernel
theorem dX3_newBlock_13 : decode cX3_newBlock 13 = .ok (.putfield 24, 3) := by decide +kernel
theorem dX3_newBlock_16 : decode cX3_newBlock 16 = .ok (.aload_n 0, 1) := by decide +kernel
theorem dX3_newBlock_17 : decode cX3_newBlock 17 = .ok (.getfield 27, 3) := by decide +kernel
theorem dX3_newBlock_20 : decode cX3_newBlock 20 = .ok (.iload 5, 2) := by decide +kernel
theorem dX3_newBlock_22 : decode cX3_newBlock 22 = .ok (.iload_n 1, 1) := by decide +kernel
theorem dX3_newBlock_23 : decode cX3_newBlock 23 = .ok (.iastore, 1) := by decide +kernel
theorem dX3_newBlock_24 : decode cX3_newBlock 24 = .ok (.aload_n 0, 1) := by decide +kernel
theorem dX3_newBlock_25 : decode cX3_newBlock 25 = .ok (.getfield 30, 3) := by decide +kernel
theorem dX3_newBlock_28 : decode cX3_newBlock 28 = .ok (.iload 5, 2) := by decide +kernel
theorem dX3_newBlock_30 : decode cX3_newBlock 30 = .ok (.iload_n 2, 1) := by decide +kernel
theorem dX3_newBlock_31 : decode cX3_newBlock 31 = .ok (.iastore, 1) := by decide +kernel
theorem dX3_newBlock_32 : decode cX3_newBlock 32 = .ok (.aload_n 0, 1) := by decide +kernel
theorem dX3_newBlock_33 : decode cX3_newBlock 33 = .ok (.getfield 33, 3) := by decide +kernel
theorem dX3_newBlock_36 : decode cX3_newBlock 36 = .ok (.iload 5, 2) := by decide +kernel
theorem dX3_newBlock_38 : decode cX3_newBlock 38 = .ok (.iload_n 3, 1) := by decide +kernel
theorem dX3_newBlock_39 : decode cX3_newBlock 39 = .ok (.iastore, 1) := by decide +kernel
theorem dX3_newBlock_40 : decode cX3_newBlock 40 = .ok (.aload_n 0, 1) := by decide +kernel
theorem dX3_newBlock_41 : decode cX3_newBlock 41 = .ok (.getfield 36, 3) := by decide +kernel
theorem dX3_newBlock_44 : decode cX3_newBlock 44 = .ok (.iload 5, 2) := by decide +kernel
theorem dX3_newBlock_46 : decode cX3_newBlock 46 = .ok (.aload_n 0, 1) := by decide +kernel
theorem dX3_newBlock_47 : decode cX3_newBlock 47 = .ok (.getfield 36, 3) := by decide +kernel
theorem dX3_newBlock_50 : decode cX3_newBlock 50 = .ok (.iload_n 1, 1) := by decide +kernel
theorem dX3_newBlock_51 : decode cX3_newBlock 51 = .ok (.iaload, 1) := by decide +kernel
theorem dX3_newBlock_52 : decode cX3_newBlock 52 = .ok (.iconst 1, 1) := by decide +kernel
theorem dX3_newBlock_53 : decode cX3_newBlock 53 = .ok (.iadd, 1) := by decide +kernel
theorem dX3_newBlock_54 : decode cX3_newBlock 54 = .ok (.iastore, 1) := by decide +kernel
theorem dX3_newBlock_55 : decode cX3_newBlock 55 = .ok (.aload_n 0, 1) := by decide +kernel
theorem dX3_newBlock_56 : decode cX3_newBlock 56 = .ok (.getfield 39, 3) := by decide +kernel
theorem dX3_newBlock_59 : decode cX3_newBlock 59 = .ok (.iload 5, 2) := by decide +kernel
theorem dX3_newBlock_61 : decode cX3_newBlock 61 = .ok (.iload 4, 2) := by decide +kernel
theorem dX3_newBlock_63 : decode cX3_newBlock 63 = .ok (.iastore, 1) := by decide +kernel
theorem dX3_newBlock_64 : decode cX3_newBlock 64 = .ok (.iload 5, 2) := by decide +kernel
theorem dX3_newBlock_66 : decode cX3_newBlock 66 = .ok (.ireturn, 1) := by decide +kernel
theorem dX3_epoch_0 : decode cX3_epoch 0 = .ok (.aload_n 0, 1) := by decide +kernel
theorem dX3_epoch_1 : decode cX3_epoch 1 = .ok (.iconst 0, 1) := by decide +kernel
theorem dX3_epoch_2 : decode cX3_epoch 2 = .ok (.putfield 1, 3) := by decide +kernel
theorem dX3_epoch_5 : decode cX3_epoch 5 = .ok (.aload_n 0, 1) := by decide +kernel
theorem dX3_epoch_6 : decode cX3_epoch 6 = .ok (.getfield 85, 3) := by decide +kernel
theorem dX3_epoch_9 : decode cX3_epoch 9 = .ok (.bipush 40, 2) := by decide +kernel
theorem dX3_epoch_11 : decode cX3_epoch 11 = .ok (.if_icmp .ne 6, 3) := by decide +kernel
theorem dX3_epoch_14 : decode cX3_epoch 14 = .ok (.bipush (-3), 2) := by decide +kernel
theorem dX3_epoch_16 : decode cX3_epoch 16 = .ok (.ireturn, 1) := by decide +kernel
theorem dX3_epoch_17 : decode cX3_epoch 17 = .ok (.aload_n 0, 1) := by decide +kernel
theorem dX3_epoch_18 : decode cX3_epoch 18 = .ok (.getfield 21, 3) := by decide +kernel
theorem dX3_epoch_21 : decode cX3_epoch 21 = .ok (.aload_n 0, 1) := by decide +kernel
theorem dX3_epoch_22 : decode cX3_epoch 22 = .ok (.getfield 85, 3) := by decide +kernel
theorem dX3_epoch_25 : decode cX3_epoch 25 = .ok (.iconst 1, 1) := by decide +kernel
theorem dX3_epoch_26 : decode cX3_epoch 26 = .ok (.iadd, 1) := by decide +kernel
theorem dX3_epoch_27 : decode cX3_epoch 27 = .ok (.iaload, 1) := by decide +kernel
theorem dX3_epoch_28 : decode cX3_epoch 28 = .ok (.istore_n 1, 1) := by decide +kernel
theorem dX3_epoch_29 : decode cX3_epoch 29 = .ok (.aload_n 0, 1) := by decide +kernel
theorem dX3_epoch_30 : decode cX3_epoch 30 = .ok (.getfield 13, 3) := by decide +kernel
theorem dX3_epoch_33 : decode cX3_epoch 33 = .ok (.iload_n 1, 1) := by decide +kernel
theorem dX3_epoch_34 : decode cX3_epoch 34 = .ok (.baload, 1) := by decide +kernel
theorem dX3_epoch_35 : decode cX3_epoch 35 = .ok (.ifCond .ne 15, 3) := by decide +kernel
theorem dX3_epoch_38 : decode cX3_epoch 38 = .ok (.aload_n 0, 1) := by decide +kernel
theorem dX3_epoch_39 : decode cX3_epoch 39 = .ok (.getfield 24, 3) := by decide +kernel
theorem dX3_epoch_42 : decode cX3_epoch 42 = .ok (.bipush 61, 2) := by decide +kernel
theorem dX3_epoch_44 : decode cX3_epoch 44 = .ok (.if_icmp .ne 6, 3) := by decide +kernel
theorem dX3_epoch_47 : decode cX3_epoch 47 = .ok (.bipush (-4), 2) := by decide +kernel
theorem dX3_epoch_49 : decode cX3_epoch 49 = .ok (.ireturn, 1) := by decide +kernel
theorem dX3_epoch_50 : decode cX3_epoch 50 = .ok (.aload_n 0, 1) := by decide +kernel
theorem dX3_epoch_51 : decode cX3_epoch 51 = .ok (.dup, 1) := by decide +kernel
theorem dX3_epoch_52 : decode cX3_epoch 52 = .ok (.getfield 85, 3) := by decide +kernel
theorem dX3_epoch_55 : decode cX3_epoch 55 = .ok (.iconst 1, 1) := by decide +kernel
theorem dX3_epoch_56 : decode cX3_epoch 56 = .ok (.iadd, 1) := by decide +kernel
theorem dX3_epoch_57 : decode cX3_epoch 57 = .ok (.putfield 85, 3) := by decide +kernel
theorem dX3_epoch_60 : decode cX3_epoch 60 = .ok (.aload_n 0, 1) := by decide +kernel
theorem dX3_epoch_61 : decode cX3_epoch 61 = .ok (.getfield 13, 3) := by decide +kernel
theorem dX3_epoch_64 : decode cX3_epoch 64 = .ok (.iload_n 1, 1) := by decide +kernel
theorem dX3_epoch_65 : decode cX3_epoch 65 = .ok (.baload, 1) := by decide +kernel
theorem dX3_epoch_66 : decode cX3_epoch 66 = .ok (.ifCond .ne 71, 3) := by decide +kernel
theorem dX3_epoch_69 : decode cX3_epoch 69 = .ok (.aload_n 0, 1) := by decide +kernel
theorem dX3_epoch_70 : decode cX3_epoch 70 = .ok (.iload_n 1, 1) := by decide +kernel
theorem dX3_epoch_71 : decode cX3_epoch 71 = .ok (.invokevirtual 109, 3) := by decide +kernel
theorem dX3_epoch_74 : decode cX3_epoch 74 = .ok (.aload_n 0, 1) := by decide +kernel
theorem dX3_epoch_75 : decode cX3_epoch 75 = .ok (.getfield 17, 3) := by decide +kernel
theorem dX3_epoch_78 : decode cX3_epoch 78 = .ok (.iload_n 1, 1) := by decide +kernel
theorem dX3_epoch_79 : decode cX3_epoch 79 = .ok (.iaload, 1) := by decide +kernel
theorem dX3_epoch_80 : decode cX3_epoch 80 = .ok (.istore_n 2, 1) := by decide +kernel
theorem dX3_epoch_81 : decode cX3_epoch 81 = .ok (.aload_n 0, 1) := by decide +kernel
theorem dX3_epoch_82 : decode cX3_epoch 82 = .ok (.getfield 97, 3) := by decide +kernel
theorem dX3_epoch_85 : decode cX3_epoch 85 = .ok (.istore_n 3, 1) := by decide +kernel
theorem dX3_epoch_86 : decode cX3_epoch 86 = .ok (.iload_n 3, 1) := by decide +kernel
theorem dX3_epoch_87 : decode cX3_epoch 87 = .ok (.iconst (-1), 1) := by decide +kernel
theorem dX3_epoch_88 : decode cX3_epoch 88 = .ok (.if_icmp .eq 24, 3) := by decide +kernel
theorem dX3_epoch_91 : decode cX3_epoch 91 = .ok (.iload_n 2, 1) := by decide +kernel
theorem dX3_epoch_92 : decode cX3_epoch 92 = .ok (.aload_n 0, 1) := by decide +kernel
theorem dX3_epoch_93 : decode cX3_epoch 93 = .ok (.getfield 33, 3) := by decide +kernel
theorem dX3_epoch_96 : decode cX3_epoch 96 = .ok (.iload_n 3, 1) := by decide +kernel
theorem dX3_epoch_97 : decode cX3_epoch 97 = .ok (.iaload, 1) := by decide +kernel
theorem dX3_epoch_98 : decode cX3_epoch 98 = .ok (.iconst (-1), 1) := by decide +kernel
theorem dX3_epoch_99 : decode cX3_epoch 99 = .ok (.ixor, 1) := by decide +kernel
theorem dX3_epoch_100 : decode cX3_epoch 100 = .ok (.iand, 1) := by decide +kernel
theorem dX3_epoch_101 : decode cX3_epoch 101 = .ok (.istore_n 2, 1) := by decide +kernel
theorem dX3_epoch_102 : decode cX3_epoch 102 = .ok (.aload_n 0, 1) := by decide +kernel
theorem dX3_epoch_103 : decode cX3_epoch 103 = .ok (.getfield 27, 3) := by decide +kernel
theorem dX3_epoch_106 : decode cX3_epoch 106 = .ok (.iload_n 3, 1) := by decide +kernel
theorem dX3_epoch_107 : decode cX3_epoch 107 = .ok (.iaload, 1) := by decide +kernel
theorem dX3_epoch_108 : decode cX3_epoch 108 = .ok (.istore_n 3, 1) := by decide +kernel
theorem dX3_epoch_109 : decode cX3_epoch 109 = .ok (.goto (-23), 3) := by decide +kernel
theorem dX3_epoch_112 : decode cX3_epoch 112 = .ok (.aload_n 0, 1) := by decide +kernel
theorem dX3_epoch_113 : decode cX3_epoch 113 = .ok (.aload_n 0, 1) := by decide +kernel
theorem dX3_epoch_114 : decode cX3_epoch 114 = .ok (.getfield 97, 3) := by decide +kernel
theorem dX3_epoch_117 : decode cX3_epoch 117 = .ok (.aload_n 0, 1) := by decide +kernel
theorem dX3_epoch_118 : decode cX3_epoch 118 = .ok (.getfield 85, 3) := by decide +kernel
theorem dX3_epoch_121 : decode cX3_epoch 121 = .ok (.iload_n 2, 1) := by decide +kernel
theorem dX3_epoch_122 : decode cX3_epoch 122 = .ok (.iload_n 1, 1) := by decide +kernel
theorem dX3_epoch_123 : decode cX3_epoch 123 = .ok (.invokevirtual 120, 3) := by decide +kernel
theorem dX3_epoch_126 : decode cX3_epoch 126 = .ok (.istore_n 3, 1) := by decide +kernel
theorem dX3_epoch_127 : decode cX3_epoch 127 = .ok (.aload_n 0, 1) := by decide +kernel
theorem dX3_epoch_128 : decode cX3_epoch 128 = .ok (.iload_n 1, 1) := by decide +kernel
theorem dX3_epoch_129 : decode cX3_epoch 129 = .ok (.iload_n 3, 1) := by decide +kernel
theorem dX3_epoch_130 : decode cX3_epoch 130 = .ok (.iconst (-1), 1) := by decide +kernel
theorem dX3_epoch_131 : decode cX3_epoch 131 = .ok (.invokestatic 90, 3) := by decide +kernel
theorem dX3_epoch_134 : decode cX3_epoch 134 = .ok (.invokevirtual 116, 3) := by decide +kernel
theorem dX3_epoch_137 : decode cX3_epoch 137 = .ok (.iconst 0, 1) := by decide +kernel
theorem dX3_epoch_138 : decode cX3_epoch 138 = .ok (.istore_n 2, 1) := by decide +kernel
theorem dX3_epoch_139 : decode cX3_epoch 139 = .ok (.iload_n 2, 1) := by decide +kernel
theorem dX3_epoch_140 : decode cX3_epoch 140 = .ok (.aload_n 0, 1) := by decide +kernel
theorem dX3_epoch_141 : decode cX3_epoch 141 = .ok (.getfield 69, 3) := by decide +kernel
theorem dX3_epoch_144 : decode cX3_epoch 144 = .ok (.if_icmp .ge 14, 3) := by decide +kernel
theorem dX3_epoch_147 : decode cX3_epoch 147 = .ok (.aload_n 0, 1) := by decide +kernel
theorem dX3_epoch_148 : decode cX3_epoch 148 = .ok (.iload_n 2, 1) := by decide +kernel
theorem dX3_epoch_149 : decode cX3_epoch 149 = .ok (.invokevirtual 124, 3) := by decide +kernel
theorem dX3_epoch_152 : decode cX3_epoch 152 = .ok (.iinc 2 1, 3) := by decide +kernel
theorem dX3_epoch_155 : decode cX3_epoch 155 = .ok (.goto (-16), 3) := by decide +kernel
theorem dX3_epoch_158 : decode cX3_epoch 158 = .ok (.aload_n 0, 1) := by decide +kernel
theorem dX3_epoch_159 : decode cX3_epoch 159 = .ok (.getfield 85, 3) := by decide +kernel
theorem dX3_epoch_162 : decode cX3_epoch 162 = .ok (.ireturn, 1) := by decide +kernel
theorem dX3_comes_0 : decode cX3_comes 0 = .ok (.aload_n 0, 1) := by decide +kernel
theorem dX3_comes_1 : decode cX3_comes 1 = .ok (.dup, 1) := by decide +kernel
theorem dX3_comes_2 : decode cX3_comes 2 = .ok (.getfield 127, 3) := by decide +kernel
theorem dX3_comes_5 : decode cX3_comes 5 = .ok (.iconst 1, 1) := by decide +kernel
theorem dX3_comes_6 : decode cX3_comes 6 = .ok (.iadd, 1) := by decide +kernel
theorem dX3_comes_7 : decode cX3_comes 7 = .ok (.putfield 127, 3) := by decide +kernel
theorem dX3_comes_10 : decode cX3_comes 10 = .ok (.aload_n 0, 1) := by decide +kernel
theorem dX3_comes_11 : decode cX3_comes 11 = .ok (.iload_n 1, 1) := by decide +kernel
theorem dX3_comes_12 : decode cX3_comes 12 = .ok (.iload_n 2, 1) := by decide +kernel
theorem dX3_comes_13 : decode cX3_comes 13 = .ok (.invokevirtual 116, 3) := by decide +kernel
theorem dX3_comes_16 : decode cX3_comes 16 = .ok (.aload_n 0, 1) := by decide +kernel
theorem dX3_comes_17 : decode cX3_comes 17 = .ok (.iload_n 1, 1) := by decide +kernel
theorem dX3_comes_18 : decode cX3_comes 18 = .ok (.invokevirtual 124, 3) := by decide +kernel
theorem dX3_comes_21 : decode cX3_comes 21 = .ok (.return_, 1) := by decide +kernel
theorem dX3_bring_0 : decode cX3_bring 0 = .ok (.aload_n 0, 1) := by decide +kernel
theorem dX3_bring_1 : decode cX3_bring 1 = .ok (.iconst 0, 1) := by decide +kernel
theorem dX3_bring_2 : decode cX3_bring 2 = .ok (.putfield 1, 3) := by decide +kernel
theorem dX3_bring_5 : decode cX3_bring 5 = .ok (.aload_n 0, 1) := by decide +kernel
theorem dX3_bring_6 : decode cX3_bring 6 = .ok (.iload_n 1, 1) := by decide +kernel
theorem dX3_bring_7 : decode cX3_bring 7 = .ok (.invokevirtual 130, 3) := by decide +kernel
theorem dX3_bring_10 : decode cX3_bring 10 = .ok (.ifCond .eq 11, 3) := by decide +kernel
theorem dX3_bring_13 : decode cX3_bring 13 = .ok (.aload_n 0, 1) := by decide +kernel
theorem dX3_bring_14 : decode cX3_bring 14 = .ok (.iload_n 2, 1) := by decide +kernel
theorem dX3_bring_15 : decode cX3_bring 15 = .ok (.invokevirtual 82, 3) := by decide +kernel
theorem dX3_bring_18 : decode cX3_bring 18 = .ok (.ifCond .ne 6, 3) := by decide +kernel
theorem dX3_bring_21 : decode cX3_bring 21 = .ok (.bipush (-2), 2) := by decide +kernel
theorem dX3_bring_23 : decode cX3_bring 23 = .ok (.ireturn, 1) := by decide +kernel
theorem dX3_bring_24 : decode cX3_bring 24 = .ok (.aload_n 0, 1) := by decide +kernel
theorem dX3_bring_25 : decode cX3_bring 25 = .ok (.getfield 45, 3) := by decide +kernel
theorem dX3_bring_28 : decode cX3_bring 28 = .ok (.bipush 10, 2) := by decide +kernel
theorem dX3_bring_30 : decode cX3_bring 30 = .ok (.iload_n 1, 1) := by decide +kernel
theorem dX3_bring_31 : decode cX3_bring 31 = .ok (.iconst (-1), 1) := by decide +kernel
theorem dX3_bring_32 : decode cX3_bring 32 = .ok (.invokestatic 90, 3) := by decide +kernel
theorem dX3_bring_35 : decode cX3_bring 35 = .ok (.imul, 1) := by decide +kernel
theorem dX3_bring_36 : decode cX3_bring 36 = .ok (.iload_n 2, 1) := by decide +kernel
theorem dX3_bring_37 : decode cX3_bring 37 = .ok (.iadd, 1) := by decide +kernel
theorem dX3_bring_38 : decode cX3_bring 38 = .ok (.baload, 1) := by decide +kernel
theorem dX3_bring_39 : decode cX3_bring 39 = .ok (.ifCond .ne 6, 3) := by decide +kernel
theorem dX3_bring_42 : decode cX3_bring 42 = .ok (.bipush (-3), 2) := by decide +kernel
theorem dX3_bring_44 : decode cX3_bring 44 = .ok (.ireturn, 1) := by decide +kernel
theorem dX3_bring_45 : decode cX3_bring 45 = .ok (.aload_n 0, 1) := by decide +kernel
theorem dX3_bring_46 : decode cX3_bring 46 = .ok (.iload_n 2, 1) := by decide +kernel
theorem dX3_bring_47 : decode cX3_bring 47 = .ok (.iload_n 1, 1) := by decide +kernel
theorem dX3_bring_48 : decode cX3_bring 48 = .ok (.iconst (-1), 1) := by decide +kernel
theorem dX3_bring_49 : decode cX3_bring 49 = .ok (.invokestatic 90, 3) := by decide +kernel
theorem dX3_bring_52 : decode cX3_bring 52 = .ok (.invokevirtual 133, 3) := by decide +kernel
theorem dX3_bring_55 : decode cX3_bring 55 = .ok (.iconst 1, 1) := by decide +kernel
theorem dX3_bring_56 : decode cX3_bring 56 = .ok (.ireturn, 1) := by decide +kernel
theorem dX3_bringVote_0 : decode cX3_bringVote 0 = .ok (.aload_n 0, 1) := by decide +kernel
theorem dX3_bringVote_1 : decode cX3_bringVote 1 = .ok (.iconst 0, 1) := by decide +kernel
theorem dX3_bringVote_2 : decode cX3_bringVote 2 = .ok (.putfield 1, 3) := by decide +kernel
theorem dX3_bringVote_5 : decode cX3_bringVote 5 = .ok (.aload_n 0, 1) := by decide +kernel
theorem dX3_bringVote_6 : decode cX3_bringVote 6 = .ok (.iload_n 1, 1) := by decide +kernel
theorem dX3_bringVote_7 : decode cX3_bringVote 7 = .ok (.invokevirtual 82, 3) := by decide +kernel
theorem dX3_bringVote_10 : decode cX3_bringVote 10 = .ok (.ifCond .eq 19, 3) := by decide +kernel
theorem dX3_bringVote_13 : decode cX3_bringVote 13 = .ok (.aload_n 0, 1) := by decide +kernel
theorem dX3_bringVote_14 : decode cX3_bringVote 14 = .ok (.iload_n 2, 1) := by decide +kernel
theorem dX3_bringVote_15 : decode cX3_bringVote 15 = .ok (.invokevirtual 130, 3) := by decide +kernel
theorem dX3_bringVote_18 : decode cX3_bringVote 18 = .ok (.ifCond .eq 11, 3) := by decide +kernel
theorem dX3_bringVote_21 : decode cX3_bringVote 21 = .ok (.aload_n 0, 1) := by decide +kernel
theorem dX3_bringVote_22 : decode cX3_bringVote 22 = .ok (.iload_n 3, 1) := by decide +kernel
theorem dX3_bringVote_23 : decode cX3_bringVote 23 = .ok (.invokevirtual 82, 3) := by decide +kernel
theorem dX3_bringVote_26 : decode cX3_bringVote 26 = .ok (.ifCond .ne 6, 3) := by decide +kernel
theorem dX3_bringVote_29 : decode cX3_bringVote 29 = .ok (.bipush (-2), 2) := by decide +kernel
theorem dX3_bringVote_31 : decode cX3_bringVote 31 = .ok (.ireturn, 1) := by decide +kernel
theorem dX3_bringVote_32 : decode cX3_bringVote 32 = .ok (.aload_n 0, 1) := by decide +kernel
theorem dX3_bringVote_33 : decode cX3_bringVote 33 = .ok (.getfield 45, 3) := by decide +kernel
theorem dX3_bringVote_36 : decode cX3_bringVote 36 = .ok (.bipush 10, 2) := by decide +kernel
theorem dX3_bringVote_38 : decode cX3_bringVote 38 = .ok (.iload_n 2, 1) := by decide +kernel
theorem dX3_bringVote_39 : decode cX3_bringVote 39 = .ok (.iload_n 1, 1) := by decide +kernel
theorem dX3_bringVote_40 : decode cX3_bringVote 40 = .ok (.invokestatic 90, 3) := by decide +kernel
theorem dX3_bringVote_43 : decode cX3_bringVote 43 = .ok (.imul, 1) := by decide +kernel
theorem dX3_bringVote_44 : decode cX3_bringVote 44 = .ok (.iload_n 3, 1) := by decide +kernel
theorem dX3_bringVote_45 : decode cX3_bringVote 45 = .ok (.iadd, 1) := by decide +kernel
theorem dX3_bringVote_46 : decode cX3_bringVote 46 = .ok (.baload, 1) := by decide +kernel
theorem dX3_bringVote_47 : decode cX3_bringVote 47 = .ok (.ifCond .ne 6, 3) := by decide +kernel
theorem dX3_bringVote_50 : decode cX3_bringVote 50 = .ok (.bipush (-3), 2) := by decide +kernel
theorem dX3_bringVote_52 : decode cX3_bringVote 52 = .ok (.ireturn, 1) := by decide +kernel
theorem dX3_bringVote_53 : decode cX3_bringVote 53 = .ok (.aload_n 0, 1) := by decide +kernel
theorem dX3_bringVote_54 : decode cX3_bringVote 54 = .ok (.iload_n 3, 1) := by decide +kernel
theorem dX3_bringVote_55 : decode cX3_bringVote 55 = .ok (.iload_n 2, 1) := by decide +kernel
theorem dX3_bringVote_56 : decode cX3_bringVote 56 = .ok (.iload_n 1, 1) := by decide +kernel
theorem dX3_bringVote_57 : decode cX3_bringVote 57 = .ok (.invokestatic 90, 3) := by decide +kernel
theorem dX3_bringVote_60 : decode cX3_bringVote 60 = .ok (.invokevirtual 133, 3) := by decide +kernel
theorem dX3_bringVote_63 : decode cX3_bringVote 63 = .ok (.iconst 1, 1) := by decide +kernel
theorem dX3_bringVote_64 : decode cX3_bringVote 64 = .ok (.ireturn, 1) := by decide +kernel
theorem dX3_flowTo_0 : decode cX3_flowTo 0 = .ok (.iconst 0, 1) := by decide +kernel
theorem dX3_flowTo_1 : decode cX3_flowTo 1 = .ok (.istore_n 2, 1) := by decide +kernel
theorem dX3_flowTo_2 : decode cX3_flowTo 2 = .ok (.iconst 0, 1) := by decide +kernel
theorem dX3_flowTo_3 : decode cX3_flowTo 3 = .ok (.istore_n 3, 1) := by decide +kernel
theorem dX3_flowTo_4 : decode cX3_flowTo 4 = .ok (.iload_n 3, 1) := by decide +kernel
theorem dX3_flowTo_5 : decode cX3_flowTo 5 = .ok (.bipush 11, 2) := by decide +kernel
theorem dX3_flowTo_7 : decode cX3_flowTo 7 = .ok (.aload_n 0, 1) := by decide +kernel
theorem dX3_flowTo_8 : decode cX3_flowTo 8 = .ok (.getfield 24, 3) := by decide +kernel
theorem dX3_flowTo_11 : decode cX3_flowTo 11 = .ok (.imul, 1) := by decide +kernel
theorem dX3_flowTo_12 : decode cX3_flowTo 12 = .ok (.if_icmp .ge 26, 3) := by decide +kernel
theorem dX3_flowTo_15 : decode cX3_flowTo 15 = .ok (.aload_n 0, 1) := by decide +kernel
theorem dX3_flowTo_16 : decode cX3_flowTo 16 = .ok (.getfield 63, 3) := by decide +kernel
theorem dX3_flowTo_19 : decode cX3_flowTo 19 = .ok (.iload_n 3, 1) := by decide +kernel
theorem dX3_flowTo_20 : decode cX3_flowTo 20 = .ok (.aload_n 0, 1) := by decide +kernel
theorem dX3_flowTo_21 : decode cX3_flowTo 21 = .ok (.getfield 45, 3) := by decide +kernel
theorem dX3_flowTo_24 : decode cX3_flowTo 24 = .ok (.bipush 10, 2) := by decide +kernel
theorem dX3_flowTo_26 : decode cX3_flowTo 26 = .ok (.iload_n 3, 1) := by decide +kernel
theorem dX3_flowTo_27 : decode cX3_flowTo 27 = .ok (.imul, 1) := by decide +kernel
theorem dX3_flowTo_28 : decode cX3_flowTo 28 = .ok (.iload_n 1, 1) := by decide +kernel
theorem dX3_flowTo_29 : decode cX3_flowTo 29 = .ok (.iadd, 1) := by decide +kernel
theorem dX3_flowTo_30 : decode cX3_flowTo 30 = .ok (.baload, 1) := by decide +kernel
theorem dX3_flowTo_31 : decode cX3_flowTo 31 = .ok (.bastore, 1) := by decide +kernel
theorem dX3_flowTo_32 : decode cX3_flowTo 32 = .ok (.iinc 3 1, 3) := by decide +kernel
theorem dX3_flowTo_35 : decode cX3_flowTo 35 = .ok (.goto (-31), 3) := by decide +kernel
theorem dX3_flowTo_38 : decode cX3_flowTo 38 = .ok (.iconst 0, 1) := by decide +kernel
theorem dX3_flowTo_39 : decode cX3_flowTo 39 = .ok (.istore_n 3, 1) := by decide +kernel
theorem dX3_flowTo_40 : decode cX3_flowTo 40 = .ok (.iload_n 3, 1) := by decide +kernel
theorem dX3_flowTo_41 : decode cX3_flowTo 41 = .ok (.bipush 11, 2) := by decide +kernel
theorem dX3_flowTo_43 : decode cX3_flowTo 43 = .ok (.aload_n 0, 1) := by decide +kernel
theorem dX3_flowTo_44 : decode cX3_flowTo 44 = .ok (.getfield 24, 3) := by decide +kernel
theorem dX3_flowTo_47 : decode cX3_flowTo 47 = .ok (.imul, 1) := by decide +kernel
theorem dX3_flowTo_48 : decode cX3_flowTo 48 = .ok (.if_icmp .ge 27, 3) := by decide +kernel
theorem dX3_flowTo_51 : decode cX3_flowTo 51 = .ok (.aload_n 0, 1) := by decide +kernel
theorem dX3_flowTo_52 : decode cX3_flowTo 52 = .ok (.getfield 63, 3) := by decide +kernel
theorem dX3_flowTo_55 : decode cX3_flowTo 55 = .ok (.iload_n 3, 1) := by decide +kernel
theorem dX3_flowTo_56 : decode cX3_flowTo 56 = .ok (.baload, 1) := by decide +kernel
theorem dX3_flowTo_57 : decode cX3_flowTo 57 = .ok (.ifCond .eq 12, 3) := by decide +kernel
theorem dX3_flowTo_60 : decode cX3_flowTo 60 = .ok (.iinc 2 1, 3) := by decide +kernel
theorem dX3_flowTo_63 : decode cX3_flowTo 63 = .ok (.aload_n 0, 1) := by decide +kernel
theorem dX3_flowTo_64 : decode cX3_flowTo 64 = .ok (.iload_n 1, 1) := by decide +kernel
theorem dX3_flowTo_65 : decode cX3_flowTo 65 = .ok (.iload_n 3, 1) := by decide +kernel
theorem dX3_flowTo_66 : decode cX3_flowTo 66 = .ok (.invokevirtual 133, 3) := by decide +kernel
theorem dX3_flowTo_69 : decode cX3_flowTo 69 = .ok (.iinc 3 1, 3) := by decide +kernel
theorem dX3_flowTo_72 : decode cX3_flowTo 72 = .ok (.goto (-32), 3) := by decide +kernel
theorem dX3_flowTo_75 : decode cX3_flowTo 75 = .ok (.iload_n 2, 1) := by decide +kernel
theorem dX3_flowTo_76 : decode cX3_flowTo 76 = .ok (.ireturn, 1) := by decide +kernel
theorem dX3_flow_0 : decode cX3_flow 0 = .ok (.aload_n 0, 1) := by decide +kernel
theorem dX3_flow_1 : decode cX3_flow 1 = .ok (.iconst 0, 1) := by decide +kernel
theorem dX3_flow_2 : decode cX3_flow 2 = .ok (.putfield 1, 3) := by decide +kernel
theorem dX3_flow_5 : decode cX3_flow 5 = .ok (.aload_n 0, 1) := by decide +kernel
theorem dX3_flow_6 : decode cX3_flow 6 = .ok (.iload_n 1, 1) := by decide +kernel
theorem dX3_flow_7 : decode cX3_flow 7 = .ok (.invokevirtual 82, 3) := by decide +kernel
theorem dX3_flow_10 : decode cX3_flow 10 = .ok (.ifCond .eq 11, 3) := by decide +kernel
theorem dX3_flow_13 : decode cX3_flow 13 = .ok (.aload_n 0, 1) := by decide +kernel
theorem dX3_flow_14 : decode cX3_flow 14 = .ok (.iload_n 1, 1) := by decide +kernel
theorem dX3_flow_15 : decode cX3_flow 15 = .ok (.invokevirtual 136, 3) := by decide +kernel
theorem dX3_flow_18 : decode cX3_flow 18 = .ok (.goto 5, 3) := by decide +kernel
theorem dX3_flow_21 : decode cX3_flow 21 = .ok (.bipush (-2), 2) := by decide +kernel
theorem dX3_flow_23 : decode cX3_flow 23 = .ok (.ireturn, 1) := by decide +kernel
theorem dX3_settle_0 : decode cX3_settle 0 = .ok (.aload_n 0, 1) := by decide +kernel
theorem dX3_settle_1 : decode cX3_settle 1 = .ok (.iconst 0, 1) := by decide +kernel
theorem dX3_settle_2 : decode cX3_settle 2 = .ok (.putfield 1, 3) := by decide +kernel
theorem dX3_settle_5 : decode cX3_settle 5 = .ok (.iconst 0, 1) := by decide +kernel
theorem dX3_settle_6 : decode cX3_settle 6 = .ok (.istore_n 1, 1) := by decide +kernel
theorem dX3_settle_7 : decode cX3_settle 7 = .ok (.iconst 1, 1) := by decide +kernel
theorem dX3_settle_8 : decode cX3_settle 8 = .ok (.istore_n 2, 1) := by decide +kernel
theorem dX3_settle_9 : decode cX3_settle 9 = .ok (.iload_n 2, 1) := by decide +kernel
theorem dX3_settle_10 : decode cX3_settle 10 = .ok (.ifCond .eq 46, 3) := by decide +kernel
theorem dX3_settle_13 : decode cX3_settle 13 = .ok (.iload_n 1, 1) := by decide +kernel
theorem dX3_settle_14 : decode cX3_settle 14 = .ok (.istore_n 3, 1) := by decide +kernel
theorem dX3_settle_15 : decode cX3_settle 15 = .ok (.iconst 0, 1) := by decide +kernel
theorem dX3_settle_16 : decode cX3_settle 16 = .ok (.istore 4, 2) := by decide +kernel
theorem dX3_settle_18 : decode cX3_settle 18 = .ok (.iload 4, 2) := by decide +kernel
theorem dX3_settle_20 : decode cX3_settle 20 = .ok (.aload_n 0, 1) := by decide +kernel
theorem dX3_settle_21 : decode cX3_settle 21 = .ok (.getfield 69, 3) := by decide +kernel
theorem dX3_settle_24 : decode cX3_settle 24 = .ok (.if_icmp .ge 18, 3) := by decide +kernel
theorem dX3_settle_27 : decode cX3_settle 27 = .ok (.iload_n 1, 1) := by decide +kernel
theorem dX3_settle_28 : decode cX3_settle 28 = .ok (.aload_n 0, 1) := by decide +kernel
theorem dX3_settle_29 : decode cX3_settle 29 = .ok (.iload 4, 2) := by decide +kernel
theorem dX3_settle_31 : decode cX3_settle 31 = .ok (.invokevirtual 136, 3) := by decide +kernel
theorem dX3_settle_34 : decode cX3_settle 34 = .ok (.iadd, 1) := by decide +kernel
theorem dX3_settle_35 : decode cX3_settle 35 = .ok (.istore_n 1, 1) := by decide +kernel
theorem dX3_settle_36 : decode cX3_settle 36 = .ok (.iinc 4 1, 3) := by decide +kernel
theorem dX3_settle_39 : decode cX3_settle 39 = .ok (.goto (-21), 3) := by decide +kernel
theorem dX3_settle_42 : decode cX3_settle 42 = .ok (.iload_n 1, 1) := by decide +kernel
theorem dX3_settle_43 : decode cX3_settle 43 = .ok (.iload_n 3, 1) := by decide +kernel
theorem dX3_settle_44 : decode cX3_settle 44 = .ok (.if_icmp .le 7, 3) := by decide +kernel
theorem dX3_settle_47 : decode cX3_settle 47 = .ok (.iconst 1, 1) := by decide +kernel
theorem dX3_settle_48 : decode cX3_settle 48 = .ok (.goto 4, 3) := by decide +kernel
theorem dX3_settle_51 : decode cX3_settle 51 = .ok (.iconst 0, 1) := by decide +kernel
theorem dX3_settle_52 : decode cX3_settle 52 = .ok (.istore_n 2, 1) := by decide +kernel
theorem dX3_settle_53 : decode cX3_settle 53 = .ok (.goto (-44), 3) := by decide +kernel
theorem dX3_settle_56 : decode cX3_settle 56 = .ok (.iload_n 1, 1) := by decide +kernel
theorem dX3_settle_57 : decode cX3_settle 57 = .ok (.ireturn, 1) := by decide +kernel
theorem dX3_isTo_0 : decode cX3_isTo 0 = .ok (.iload_n 1, 1) := by decide +kernel
theorem dX3_isTo_1 : decode cX3_isTo 1 = .ok (.ifCond .lt 16, 3) := by decide +kernel
theorem dX3_isTo_4 : decode cX3_isTo 4 = .ok (.iload_n 1, 1) := by decide +kernel
theorem dX3_isTo_5 : decode cX3_isTo 5 = .ok (.aload_n 0, 1) := by decide +kernel
theorem dX3_isTo_6 : decode cX3_isTo 6 = .ok (.getfield 69, 3) := by decide +kernel
theorem dX3_isTo_9 : decode cX3_isTo 9 = .ok (.ishr, 1) := by decide +kernel
theorem dX3_isTo_10 : decode cX3_isTo 10 = .ok (.ifCond .ne 7, 3) := by decide +kernel
theorem dX3_isTo_13 : decode cX3_isTo 13 = .ok (.iconst 1, 1) := by decide +kernel
theorem dX3_isTo_14 : decode cX3_isTo 14 = .ok (.goto 4, 3) := by decide +kernel
theorem dX3_isTo_17 : decode cX3_isTo 17 = .ok (.iconst 0, 1) := by decide +kernel
theorem dX3_isTo_18 : decode cX3_isTo 18 = .ok (.ireturn, 1) := by decide +kernel
theorem dX3_send_0 : decode cX3_send 0 = .ok (.iconst 0, 1) := by decide +kernel
theorem dX3_send_1 : decode cX3_send 1 = .ok (.istore_n 3, 1) := by decide +kernel
theorem dX3_send_2 : decode cX3_send 2 = .ok (.iconst 0, 1) := by decide +kernel
theorem dX3_send_3 : decode cX3_send 3 = .ok (.istore 4, 2) := by decide +kernel
theorem dX3_send_5 : decode cX3_send 5 = .ok (.iload 4, 2) := by decide +kernel
theorem dX3_send_7 : decode cX3_send 7 = .ok (.aload_n 0, 1) := by decide +kernel
theorem dX3_send_8 : decode cX3_send 8 = .ok (.getfield 69, 3) := by decide +kernel
theorem dX3_send_11 : decode cX3_send 11 = .ok (.if_icmp .ge 65, 3) := by decide +kernel
theorem dX3_send_14 : decode cX3_send 14 = .ok (.iload_n 2, 1) := by decide +kernel
theorem dX3_send_15 : decode cX3_send 15 = .ok (.iload 4, 2) := by decide +kernel
theorem dX3_send_17 : decode cX3_send 17 = .ok (.ishr, 1) := by decide +kernel
theorem dX3_send_18 : decode cX3_send 18 = .ok (.iconst 1, 1) := by decide +kernel
theorem dX3_send_19 : decode cX3_send 19 = .ok (.iand, 1) := by decide +kernel
theorem dX3_send_20 : decode cX3_send 20 = .ok (.iconst 1, 1) := by decide +kernel
theorem dX3_send_21 : decode cX3_send 21 = .ok (.if_icmp .ne 49, 3) := by decide +kernel
theorem dX3_send_24 : decode cX3_send 24 = .ok (.aload_n 0, 1) := by decide +kernel
theorem dX3_send_25 : decode cX3_send 25 = .ok (.getfield 42, 3) := by decide +kernel
theorem dX3_send_28 : decode cX3_send 28 = .ok (.bipush 10, 2) := by decide +kernel
theorem dX3_send_30 : decode cX3_send 30 = .ok (.iload_n 1, 1) := by decide +kernel
theorem dX3_send_31 : decode cX3_send 31 = .ok (.imul, 1) := by decide +kernel
theorem dX3_send_32 : decode cX3_send 32 = .ok (.iload 4, 2) := by decide +kernel
theorem dX3_send_34 : decode cX3_send 34 = .ok (.iadd, 1) := by decide +kernel
theorem dX3_send_35 : decode cX3_send 35 = .ok (.baload, 1) := by decide +kernel
theorem dX3_send_36 : decode cX3_send 36 = .ok (.ifCond .ne 34, 3) := by decide +kernel
theorem dX3_send_39 : decode cX3_send 39 = .ok (.aload_n 0, 1) := by decide +kernel
theorem dX3_send_40 : decode cX3_send 40 = .ok (.getfield 45, 3) := by decide +kernel
theorem dX3_send_43 : decode cX3_send 43 = .ok (.bipush 10, 2) := by decide +kernel
theorem dX3_send_45 : decode cX3_send 45 = .ok (.iload_n 1, 1) := by decide +kernel
theorem dX3_send_46 : decode cX3_send 46 = .ok (.imul, 1) := by decide +kernel
theorem dX3_send_47 : decode cX3_send 47 = .ok (.iload 4, 2) := by decide +kernel
theorem dX3_send_49 : decode cX3_send 49 = .ok (.iadd, 1) := by decide +kernel
theorem dX3_send_50 : decode cX3_send 50 = .ok (.baload, 1) := by decide +kernel
theorem dX3_send_51 : decode cX3_send 51 = .ok (.ifCond .ne 19, 3) := by decide +kernel
theorem dX3_send_54 : decode cX3_send 54 = .ok (.aload_n 0, 1) := by decide +kernel
theorem dX3_send_55 : decode cX3_send 55 = .ok (.getfield 45, 3) := by decide +kernel
theorem dX3_send_58 : decode cX3_send 58 = .ok (.bipush 10, 2) := by decide +kernel
theorem dX3_send_60 : decode cX3_send 60 = .ok (.iload_n 1, 1) := by decide +kernel
theorem dX3_send_61 : decode cX3_send 61 = .ok (.imul, 1) := by decide +kernel
theorem dX3_send_62 : decode cX3_send 62 = .ok (.iload 4, 2) := by decide +kernel
theorem dX3_send_64 : decode cX3_send 64 = .ok (.iadd, 1) := by decide +kernel
theorem dX3_send_65 : decode cX3_send 65 = .ok (.iconst 1, 1) := by decide +kernel
theorem dX3_send_66 : decode cX3_send 66 = .ok (.bastore, 1) := by decide +kernel
theorem dX3_send_67 : decode cX3_send 67 = .ok (.iinc 3 1, 3) := by decide +kernel
theorem dX3_send_70 : decode cX3_send 70 = .ok (.iinc 4 1, 3) := by decide +kernel
theorem dX3_send_73 : decode cX3_send 73 = .ok (.goto (-68), 3) := by decide +kernel
theorem dX3_send_76 : decode cX3_send 76 = .ok (.iload_n 3, 1) := by decide +kernel
theorem dX3_send_77 : decode cX3_send 77 = .ok (.ireturn, 1) := by decide +kernel
theorem dX3_propose_0 : decode cX3_propose 0 = .ok (.aload_n 0, 1) := by decide +kernel
theorem dX3_propose_1 : decode cX3_propose 1 = .ok (.iconst 0, 1) := by decide +kernel
theorem dX3_propose_2 : decode cX3_propose 2 = .ok (.putfield 1, 3) := by decide +kernel
theorem dX3_propose_5 : decode cX3_propose 5 = .ok (.aload_n 0, 1) := by decide +kernel
theorem dX3_propose_6 : decode cX3_propose 6 = .ok (.iload_n 1, 1) := by decide +kernel
theorem dX3_propose_7 : decode cX3_propose 7 = .ok (.invokevirtual 82, 3) := by decide +kernel
theorem dX3_propose_10 : decode cX3_propose 10 = .ok (.ifCond .eq 27, 3) := by decide +kernel
theorem dX3_propose_13 : decode cX3_propose 13 = .ok (.aload_n 0, 1) := by decide +kernel
theorem dX3_propose_14 : decode cX3_propose 14 = .ok (.iload_n 2, 1) := by decide +kernel
theorem dX3_propose_15 : decode cX3_propose 15 = .ok (.invokevirtual 130, 3) := by decide +kernel
theorem dX3_propose_18 : decode cX3_propose 18 = .ok (.ifCond .eq 19, 3) := by decide +kernel
theorem dX3_propose_21 : decode cX3_propose 21 = .ok (.iload_n 3, 1) := by decide +kernel
theorem dX3_propose_22 : decode cX3_propose 22 = .ok (.invokestatic 78, 3) := by decide +kernel
theorem dX3_propose_25 : decode cX3_propose 25 = .ok (.ifCond .eq 12, 3) := by decide +kernel
theorem dX3_propose_28 : decode cX3_propose 28 = .ok (.aload_n 0, 1) := by decide +kernel
theorem dX3_propose_29 : decode cX3_propose 29 = .ok (.iload 5, 2) := by decide +kernel
theorem dX3_propose_31 : decode cX3_propose 31 = .ok (.invokevirtual 140, 3) := by decide +kernel
theorem dX3_propose_34 : decode cX3_propose 34 = .ok (.ifCond .ne 6, 3) := by decide +kernel
theorem dX3_propose_37 : decode cX3_propose 37 = .ok (.bipush (-2), 2) := by decide +kernel
theorem dX3_propose_39 : decode cX3_propose 39 = .ok (.ireturn, 1) := by decide +kernel
theorem dX3_propose_40 : decode cX3_propose 40 = .ok (.aload_n 0, 1) := by decide +kernel
theorem dX3_propose_41 : decode cX3_propose 41 = .ok (.getfield 13, 3) := by decide +kernel
theorem dX3_propose_44 : decode cX3_propose 44 = .ok (.iload_n 1, 1) := by decide +kernel
theorem dX3_propose_45 : decode cX3_propose 45 = .ok (.baload, 1) := by decide +kernel
theorem dX3_propose_46 : decode cX3_propose 46 = .ok (.ifCond .eq 13, 3) := by decide +kernel
theorem dX3_propose_49 : decode cX3_propose 49 = .ok (.aload_n 0, 1) := by decide +kernel
theorem dX3_propose_50 : decode cX3_propose 50 = .ok (.getfield 21, 3) := by decide +kernel
theorem dX3_propose_53 : decode cX3_propose 53 = .ok (.iload_n 3, 1) := by decide +kernel
theorem dX3_propose_54 : decode cX3_propose 54 = .ok (.iaload, 1) := by decide +kernel
theorem dX3_propose_55 : decode cX3_propose 55 = .ok (.iload_n 1, 1) := by decide +kernel
theorem dX3_propose_56 : decode cX3_propose 56 = .ok (.if_icmp .eq 6, 3) := by decide +kernel
theorem dX3_propose_59 : decode cX3_propose 59 = .ok (.bipush (-3), 2) := by decide +kernel
theorem dX3_propose_61 : decode cX3_propose 61 = .ok (.ireturn, 1) := by decide +kernel
theorem dX3_propose_62 : decode cX3_propose 62 = .ok (.aload_n 0, 1) := by decide +kernel
theorem dX3_propose_63 : decode cX3_propose 63 = .ok (.getfield 24, 3) := by decide +kernel
theorem dX3_propose_66 : decode cX3_propose 66 = .ok (.bipush 61, 2) := by decide +kernel
theorem dX3_propose_68 : decode cX3_propose 68 = .ok (.if_icmp .ne 6, 3) := by decide +kernel
theorem dX3_propose_71 : decode cX3_propose 71 = .ok (.bipush (-4), 2) := by decide +kernel
theorem dX3_propose_73 : decode cX3_propose 73 = .ok (.ireturn, 1) := by decide +kernel
theorem dX3_propose_74 : decode cX3_propose 74 = .ok (.aload_n 0, 1) := by decide +kernel
theorem dX3_propose_75 : decode cX3_propose 75 = .ok (.iload_n 2, 1) := by decide +kernel
theorem dX3_propose_76 : decode cX3_propose 76 = .ok (.iload_n 3, 1) := by decide +kernel
theorem dX3_propose_77 : decode cX3_propose 77 = .ok (.iload 4, 2) := by decide +kernel
theorem dX3_propose_79 : decode cX3_propose 79 = .ok (.iload_n 1, 1) := by decide +kernel
theorem dX3_propose_80 : decode cX3_propose 80 = .ok (.invokevirtual 120, 3) := by decide +kernel
theorem dX3_propose_83 : decode cX3_propose 83 = .ok (.istore 6, 2) := by decide +kernel
theorem dX3_propose_85 : decode cX3_propose 85 = .ok (.aload_n 0, 1) := by decide +kernel
theorem dX3_propose_86 : decode cX3_propose 86 = .ok (.iload_n 1, 1) := by decide +kernel
theorem dX3_propose_87 : decode cX3_propose 87 = .ok (.iload 6, 2) := by decide +kernel
theorem dX3_propose_89 : decode cX3_propose 89 = .ok (.iconst (-1), 1) := by decide +kernel
theorem dX3_propose_90 : decode cX3_propose 90 = .ok (.invokestatic 90, 3) := by decide +kernel
theorem dX3_propose_93 : decode cX3_propose 93 = .ok (.invokevirtual 116, 3) := by decide +kernel
theorem dX3_propose_96 : decode cX3_propose 96 = .ok (.aload_n 0, 1) := by decide +kernel
theorem dX3_propose_97 : decode cX3_propose 97 = .ok (.iload 6, 2) := by decide +kernel
theorem dX3_propose_99 : decode cX3_propose 99 = .ok (.iconst (-1), 1) := by decide +kernel
theorem dX3_propose_100 : decode cX3_propose 100 = .ok (.invokestatic 90, 3) := by decide +kernel
theorem dX3_propose_103 : decode cX3_propose 103 = .ok (.iload 5, 2) := by decide +kernel
theorem dX3_propose_105 : decode cX3_propose 105 = .ok (.invokevirtual 143, 3) := by decide +kernel
theorem dX3_propose_108 : decode cX3_propose 108 = .ok (.istore 7, 2) := by decide +kernel
theorem dX3_propose_110 : decode cX3_propose 110 = .ok (.iload 6, 2) := by decide +kernel
theorem dX3_propose_112 : decode cX3_propose 112 = .ok (.ireturn, 1) := by decide +kernel
theorem dX3_lie_0 : decode cX3_lie 0 = .ok (.aload_n 0, 1) := by decide +kernel
theorem dX3_lie_1 : decode cX3_lie 1 = .ok (.iconst 0, 1) := by decide +kernel
theorem dX3_lie_2 : decode cX3_lie 2 = .ok (.putfield 1, 3) := by decide +kernel
theorem dX3_lie_5 : decode cX3_lie 5 = .ok (.aload_n 0, 1) := by decide +kernel
theorem dX3_lie_6 : decode cX3_lie 6 = .ok (.iload_n 1, 1) := by decide +kernel
theorem dX3_lie_7 : decode cX3_lie 7 = .ok (.invokevirtual 82, 3) := by decide +kernel
theorem dX3_lie_10 : decode cX3_lie 10 = .ok (.ifCond .eq 27, 3) := by decide +kernel
theorem dX3_lie_13 : decode cX3_lie 13 = .ok (.iload_n 2, 1) := by decide +kernel
theorem dX3_lie_14 : decode cX3_lie 14 = .ok (.i2l, 1) := by decide +kernel
theorem dX3_lie_15 : decode cX3_lie 15 = .ok (.lconst 1, 1) := by decide +kernel
theorem dX3_lie_16 : decode cX3_lie 16 = .ok (.aload_n 0, 1) := by decide +kernel
theorem dX3_lie_17 : decode cX3_lie 17 = .ok (.getfield 24, 3) := by decide +kernel
theorem dX3_lie_20 : decode cX3_lie 20 = .ok (.iconst 1, 1) := by decide +kernel
theorem dX3_lie_21 : decode cX3_lie 21 = .ok (.isub, 1) := by decide +kernel
theorem dX3_lie_22 : decode cX3_lie 22 = .ok (.i2l, 1) := by decide +kernel
theorem dX3_lie_23 : decode cX3_lie 23 = .ok (.invokestatic 72, 3) := by decide +kernel
theorem dX3_lie_26 : decode cX3_lie 26 = .ok (.ifCond .eq 11, 3) := by decide +kernel
theorem dX3_lie_29 : decode cX3_lie 29 = .ok (.aload_n 0, 1) := by decide +kernel
theorem dX3_lie_30 : decode cX3_lie 30 = .ok (.iload_n 3, 1) := by decide +kernel
theorem dX3_lie_31 : decode cX3_lie 31 = .ok (.invokevirtual 140, 3) := by decide +kernel
theorem dX3_lie_34 : decode cX3_lie 34 = .ok (.ifCond .ne 6, 3) := by decide +kernel
theorem dX3_lie_37 : decode cX3_lie 37 = .ok (.bipush (-2), 2) := by decide +kernel
theorem dX3_lie_39 : decode cX3_lie 39 = .ok (.ireturn, 1) := by decide +kernel
theorem dX3_lie_40 : decode cX3_lie 40 = .ok (.aload_n 0, 1) := by decide +kernel
theorem dX3_lie_41 : decode cX3_lie 41 = .ok (.getfield 13, 3) := by decide +kernel
theorem dX3_lie_44 : decode cX3_lie 44 = .ok (.iload_n 1, 1) := by decide +kernel
theorem dX3_lie_45 : decode cX3_lie 45 = .ok (.baload, 1) := by decide +kernel
theorem dX3_lie_46 : decode cX3_lie 46 = .ok (.ifCond .ne 6, 3) := by decide +kernel
theorem dX3_lie_49 : decode cX3_lie 49 = .ok (.bipush (-3), 2) := by decide +kernel
theorem dX3_lie_51 : decode cX3_lie 51 = .ok (.ireturn, 1) := by decide +kernel
theorem dX3_lie_52 : decode cX3_lie 52 = .ok (.iload_n 2, 1) := by decide +kernel
theorem dX3_lie_53 : decode cX3_lie 53 = .ok (.iload_n 1, 1) := by decide +kernel
theorem dX3_lie_54 : decode cX3_lie 54 = .ok (.invokestatic 90, 3) := by decide +kernel
theorem dX3_lie_57 : decode cX3_lie 57 = .ok (.istore 4, 2) := by decide +kernel
theorem dX3_lie_59 : decode cX3_lie 59 = .ok (.aload_n 0, 1) := by decide +kernel
theorem dX3_lie_60 : decode cX3_lie 60 = .ok (.getfield 42, 3) := by decide +kernel
theorem dX3_lie_63 : decode cX3_lie 63 = .ok (.bipush 10, 2) := by decide +kernel
theorem dX3_lie_65 : decode cX3_lie 65 = .ok (.iload 4, 2) := by decide +kernel
theorem dX3_lie_67 : decode cX3_lie 67 = .ok (.imul, 1) := by decide +kernel
theorem dX3_lie_68 : decode cX3_lie 68 = .ok (.iload_n 1, 1) := by decide +kernel
theorem dX3_lie_69 : decode cX3_lie 69 = .ok (.iadd, 1) := by decide +kernel
theorem dX3_lie_70 : decode cX3_lie 70 = .ok (.baload, 1) := by decide +kernel
theorem dX3_lie_71 : decode cX3_lie 71 = .ok (.ifCond .ne 10, 3) := by decide +kernel
theorem dX3_lie_74 : decode cX3_lie 74 = .ok (.aload_n 0, 1) := by decide +kernel
theorem dX3_lie_75 : decode cX3_lie 75 = .ok (.iload_n 1, 1) := by decide +kernel
theorem dX3_lie_76 : decode cX3_lie 76 = .ok (.iload 4, 2) := by decide +kernel
theorem dX3_lie_78 : decode cX3_lie 78 = .ok (.invokevirtual 116, 3) := by decide +kernel
theorem dX3_lie_81 : decode cX3_lie 81 = .ok (.aload_n 0, 1) := by decide +kernel
theorem dX3_lie_82 : decode cX3_lie 82 = .ok (.iload 4, 2) := by decide +kernel
theorem dX3_lie_84 : decode cX3_lie 84 = .ok (.iload_n 3, 1) := by decide +kernel
theorem dX3_lie_85 : decode cX3_lie 85 = .ok (.invokevirtual 143, 3) := by decide +kernel
theorem dX3_lie_88 : decode cX3_lie 88 = .ok (.ireturn, 1) := by decide +kernel
theorem dX3_pass_0 : decode cX3_pass 0 = .ok (.aload_n 0, 1) := by decide +kernel
theorem dX3_pass_1 : decode cX3_pass 1 = .ok (.iconst 0, 1) := by decide +kernel
theorem dX3_pass_2 : decode cX3_pass 2 = .ok (.putfield 1, 3) := by decide +kernel
theorem dX3_pass_5 : decode cX3_pass 5 = .ok (.aload_n 0, 1) := by decide +kernel
theorem dX3_pass_6 : decode cX3_pass 6 = .ok (.iload_n 1, 1) := by decide +kernel
theorem dX3_pass_7 : decode cX3_pass 7 = .ok (.invokevirtual 82, 3) := by decide +kernel
theorem dX3_pass_10 : decode cX3_pass 10 = .ok (.ifCond .eq 27, 3) := by decide +kernel
theorem dX3_pass_13 : decode cX3_pass 13 = .ok (.iload_n 2, 1) := by decide +kernel
theorem dX3_pass_14 : decode cX3_pass 14 = .ok (.i2l, 1) := by decide +kernel
theorem dX3_pass_15 : decode cX3_pass 15 = .ok (.lconst 1, 1) := by decide +kernel
theorem dX3_pass_16 : decode cX3_pass 16 = .ok (.aload_n 0, 1) := by decide +kernel
theorem dX3_pass_17 : decode cX3_pass 17 = .ok (.getfield 24, 3) := by decide +kernel
theorem dX3_pass_20 : decode cX3_pass 20 = .ok (.iconst 1, 1) := by decide +kernel
theorem dX3_pass_21 : decode cX3_pass 21 = .ok (.isub, 1) := by decide +kernel
theorem dX3_pass_22 : decode cX3_pass 22 = .ok (.i2l, 1) := by decide +kernel
theorem dX3_pass_23 : decode cX3_pass 23 = .ok (.invokestatic 72, 3) := by decide +kernel
theorem dX3_pass_26 : decode cX3_pass 26 = .ok (.ifCond .eq 11, 3) := by decide +kernel
theorem dX3_pass_29 : decode cX3_pass 29 = .ok (.aload_n 0, 1) := by decide +kernel
theorem dX3_pass_30 : decode cX3_pass 30 = .ok (.iload_n 3, 1) := by decide +kernel
theorem dX3_pass_31 : decode cX3_pass 31 = .ok (.invokevirtual 140, 3) := by decide +kernel
theorem dX3_pass_34 : decode cX3_pass 34 = .ok (.ifCond .ne 6, 3) := by decide +kernel
theorem dX3_pass_37 : decode cX3_pass 37 = .ok (.bipush (-2), 2) := by decide +kernel
theorem dX3_pass_39 : decode cX3_pass 39 = .ok (.ireturn, 1) := by decide +kernel
theorem dX3_pass_40 : decode cX3_pass 40 = .ok (.iload_n 2, 1) := by decide +kernel
theorem dX3_pass_41 : decode cX3_pass 41 = .ok (.iconst (-1), 1) := by decide +kernel
theorem dX3_pass_42 : decode cX3_pass 42 = .ok (.invokestatic 90, 3) := by decide +kernel
theorem dX3_pass_45 : decode cX3_pass 45 = .ok (.istore 4, 2) := by decide +kernel
theorem dX3_pass_47 : decode cX3_pass 47 = .ok (.aload_n 0, 1) := by decide +kernel
theorem dX3_pass_48 : decode cX3_pass 48 = .ok (.getfield 13, 3) := by decide +kernel
theorem dX3_pass_51 : decode cX3_pass 51 = .ok (.iload_n 1, 1) := by decide +kernel
theorem dX3_pass_52 : decode cX3_pass 52 = .ok (.baload, 1) := by decide +kernel
theorem dX3_pass_53 : decode cX3_pass 53 = .ok (.ifCond .eq 18, 3) := by decide +kernel
theorem dX3_pass_56 : decode cX3_pass 56 = .ok (.aload_n 0, 1) := by decide +kernel
theorem dX3_pass_57 : decode cX3_pass 57 = .ok (.getfield 42, 3) := by decide +kernel
theorem dX3_pass_60 : decode cX3_pass 60 = .ok (.bipush 10, 2) := by decide +kernel
theorem dX3_pass_62 : decode cX3_pass 62 = .ok (.iload 4, 2) := by decide +kernel
theorem dX3_pass_64 : decode cX3_pass 64 = .ok (.imul, 1) := by decide +kernel
theorem dX3_pass_65 : decode cX3_pass 65 = .ok (.iload_n 1, 1) := by decide +kernel
theorem dX3_pass_66 : decode cX3_pass 66 = .ok (.iadd, 1) := by decide +kernel
theorem dX3_pass_67 : decode cX3_pass 67 = .ok (.baload, 1) := by decide +kernel
theorem dX3_pass_68 : decode cX3_pass 68 = .ok (.ifCond .ne 8, 3) := by decide +kernel
theorem dX3_pass_71 : decode cX3_pass 71 = .ok (.bipush (-3), 2) := by decide +kernel
theorem dX3_pass_73 : decode cX3_pass 73 = .ok (.goto 10, 3) := by decide +kernel
theorem dX3_pass_76 : decode cX3_pass 76 = .ok (.aload_n 0, 1) := by decide +kernel
theorem dX3_pass_77 : decode cX3_pass 77 = .ok (.iload 4, 2) := by decide +kernel
theorem dX3_pass_79 : decode cX3_pass 79 = .ok (.iload_n 3, 1) := by decide +kernel
theorem dX3_pass_80 : decode cX3_pass 80 = .ok (.invokevirtual 143, 3) := by decide +kernel
theorem dX3_pass_83 : decode cX3_pass 83 = .ok (.ireturn, 1) := by decide +kernel
theorem dX3_about_0 : decode cX3_about 0 = .ok (.aload_n 0, 1) := by decide +kernel
theorem dX3_about_1 : decode cX3_about 1 = .ok (.iconst 0, 1) := by decide +kernel
theorem dX3_about_2 : decode cX3_about 2 = .ok (.putfield 1, 3) := by decide +kernel
theorem dX3_about_5 : decode cX3_about 5 = .ok (.aload_n 0, 1) := by decide +kernel
theorem dX3_about_6 : decode cX3_about 6 = .ok (.iload_n 1, 1) := by decide +kernel
theorem dX3_about_7 : decode cX3_about 7 = .ok (.invokevirtual 130, 3) := by decide +kernel
theorem dX3_about_10 : decode cX3_about 10 = .ok (.ifCond .eq 15, 3) := by decide +kernel
theorem dX3_about_13 : decode cX3_about 13 = .ok (.iload_n 2, 1) := by decide +kernel
theorem dX3_about_14 : decode cX3_about 14 = .ok (.i2l, 1) := by decide +kernel
theorem dX3_about_15 : decode cX3_about 15 = .ok (.lconst 0, 1) := by decide +kernel
theorem dX3_about_16 : decode cX3_about 16 = .ok (.ldc2_w 146, 3) := by decide +kernel
theorem dX3_about_19 : decode cX3_about 19 = .ok (.invokestatic 72, 3) := by decide +kernel
theorem dX3_about_22 : decode cX3_about 22 = .ok (.ifCond .ne 6, 3) := by decide +kernel
theorem dX3_about_25 : decode cX3_about 25 = .ok (.bipush (-2), 2) := by decide +kernel
theorem dX3_about_27 : decode cX3_about 27 = .ok (.ireturn, 1) := by decide +kernel
theorem dX3_about_28 : decode cX3_about 28 = .ok (.iload_n 2, 1) := by decide +kernel
theorem dX3_about_29 : decode cX3_about 29 = .ok (.ifCond .ne 12, 3) := by decide +kernel
theorem dX3_about_32 : decode cX3_about 32 = .ok (.aload_n 0, 1) := by decide +kernel
theorem dX3_about_33 : decode cX3_about 33 = .ok (.getfield 27, 3) := by decide +kernel
theorem dX3_about_36 : decode cX3_about 36 = .ok (.iload_n 1, 1) := by decide +kernel
theorem dX3_about_37 : decode cX3_about 37 = .ok (.iaload, 1) := by decide +kernel
theorem dX3_about_38 : decode cX3_about 38 = .ok (.goto 51, 3) := by decide +kernel
theorem dX3_about_41 : decode cX3_about 41 = .ok (.iload_n 2, 1) := by decide +kernel
theorem dX3_about_42 : decode cX3_about 42 = .ok (.iconst 1, 1) := by decide +kernel
theorem dX3_about_43 : decode cX3_about 43 = .ok (.if_icmp .ne 12, 3) := by decide +kernel
theorem dX3_about_46 : decode cX3_about 46 = .ok (.aload_n 0, 1) := by decide +kernel
theorem dX3_about_47 : decode cX3_about 47 = .ok (.getfield 30, 3) := by decide +kernel
theorem dX3_about_50 : decode cX3_about 50 = .ok (.iload_n 1, 1) := by decide +kernel
theorem dX3_about_51 : decode cX3_about 51 = .ok (.iaload, 1) := by decide +kernel
theorem dX3_about_52 : decode cX3_about 52 = .ok (.goto 37, 3) := by decide +kernel
theorem dX3_about_55 : decode cX3_about 55 = .ok (.iload_n 2, 1) := by decide +kernel
theorem dX3_about_56 : decode cX3_about 56 = .ok (.iconst 2, 1) := by decide +kernel
theorem dX3_about_57 : decode cX3_about 57 = .ok (.if_icmp .ne 12, 3) := by decide +kernel
theorem dX3_about_60 : decode cX3_about 60 = .ok (.aload_n 0, 1) := by decide +kernel
theorem dX3_about_61 : decode cX3_about 61 = .ok (.getfield 33, 3) := by decide +kernel
theorem dX3_about_64 : decode cX3_about 64 = .ok (.iload_n 1, 1) := by decide +kernel
theorem dX3_about_65 : decode cX3_about 65 = .ok (.iaload, 1) := by decide +kernel
theorem dX3_about_66 : decode cX3_about 66 = .ok (.goto 23, 3) := by decide +kernel
theorem dX3_about_69 : decode cX3_about 69 = .ok (.iload_n 2, 1) := by decide +kernel
theorem dX3_about_70 : decode cX3_about 70 = .ok (.iconst 3, 1) := by decide +kernel
theorem dX3_about_71 : decode cX3_about 71 = .ok (.if_icmp .ne 12, 3) := by decide +kernel
theorem dX3_about_74 : decode cX3_about 74 = .ok (.aload_n 0, 1) := by decide +kernel
theorem dX3_about_75 : decode cX3_about 75 = .ok (.getfield 36, 3) := by decide +kernel
theorem dX3_about_78 : decode cX3_about 78 = .ok (.iload_n 1, 1) := by decide +kernel
theorem dX3_about_79 : decode cX3_about 79 = .ok (.iaload, 1) := by decide +kernel
theorem dX3_about_80 : decode cX3_about 80 = .ok (.goto 9, 3) := by decide +kernel
theorem dX3_about_83 : decode cX3_about 83 = .ok (.aload_n 0, 1) := by decide +kernel
theorem dX3_about_84 : decode cX3_about 84 = .ok (.getfield 39, 3) := by decide +kernel
theorem dX3_about_87 : decode cX3_about 87 = .ok (.iload_n 1, 1) := by decide +kernel
theorem dX3_about_88 : decode cX3_about 88 = .ok (.iaload, 1) := by decide +kernel
theorem dX3_about_89 : decode cX3_about 89 = .ok (.ireturn, 1) := by decide +kernel
theorem dX3_seen_0 : decode cX3_seen 0 = .ok (.aload_n 0, 1) := by decide +kernel
theorem dX3_seen_1 : decode cX3_seen 1 = .ok (.iconst 0, 1) := by decide +kernel
theorem dX3_seen_2 : decode cX3_seen 2 = .ok (.putfield 1, 3) := by decide +kernel
theorem dX3_seen_5 : decode cX3_seen 5 = .ok (.aload_n 0, 1) := by decide +kernel
theorem dX3_seen_6 : decode cX3_seen 6 = .ok (.iload_n 1, 1) := by decide +kernel
theorem dX3_seen_7 : decode cX3_seen 7 = .ok (.invokevirtual 82, 3) := by decide +kernel
theorem dX3_seen_10 : decode cX3_seen 10 = .ok (.ifCond .eq 11, 3) := by decide +kernel
theorem dX3_seen_13 : decode cX3_seen 13 = .ok (.aload_n 0, 1) := by decide +kernel
theorem dX3_seen_14 : decode cX3_seen 14 = .ok (.iload_n 2, 1) := by decide +kernel
theorem dX3_seen_15 : decode cX3_seen 15 = .ok (.invokevirtual 130, 3) := by decide +kernel
theorem dX3_seen_18 : decode cX3_seen 18 = .ok (.ifCond .ne 6, 3) := by decide +kernel
theorem dX3_seen_21 : decode cX3_seen 21 = .ok (.bipush (-2), 2) := by decide +kernel
theorem dX3_seen_23 : decode cX3_seen 23 = .ok (.ireturn, 1) := by decide +kernel
theorem dX3_seen_24 : decode cX3_seen 24 = .ok (.aload_n 0, 1) := by decide +kernel
theorem dX3_seen_25 : decode cX3_seen 25 = .ok (.iload_n 1, 1) := by decide +kernel
theorem dX3_seen_26 : decode cX3_seen 26 = .ok (.invokevirtual 109, 3) := by decide +kernel
theorem dX3_seen_29 : decode cX3_seen 29 = .ok (.aload_n 0, 1) := by decide +kernel
theorem dX3_seen_30 : decode cX3_seen 30 = .ok (.getfield 60, 3) := by decide +kernel
theorem dX3_seen_33 : decode cX3_seen 33 = .ok (.iload_n 2, 1) := by decide +kernel
theorem dX3_seen_34 : decode cX3_seen 34 = .ok (.baload, 1) := by decide +kernel
theorem dX3_seen_35 : decode cX3_seen 35 = .ok (.ifCond .eq 7, 3) := by decide +kernel
theorem dX3_seen_38 : decode cX3_seen 38 = .ok (.iconst 4, 1) := by decide +kernel
theorem dX3_seen_39 : decode cX3_seen 39 = .ok (.goto 52, 3) := by decide +kernel
theorem dX3_seen_42 : decode cX3_seen 42 = .ok (.aload_n 0, 1) := by decide +kernel
theorem dX3_seen_43 : decode cX3_seen 43 = .ok (.getfield 57, 3) := by decide +kernel
theorem dX3_seen_46 : decode cX3_seen 46 = .ok (.iload_n 2, 1) := by decide +kernel
theorem dX3_seen_47 : decode cX3_seen 47 = .ok (.baload, 1) := by decide +kernel
theorem dX3_seen_48 : decode cX3_seen 48 = .ok (.ifCond .eq 7, 3) := by decide +kernel
theorem dX3_seen_51 : decode cX3_seen 51 = .ok (.iconst 3, 1) := by decide +kernel
theorem dX3_seen_52 : decode cX3_seen 52 = .ok (.goto 39, 3) := by decide +kernel
theorem dX3_seen_55 : decode cX3_seen 55 = .ok (.aload_n 0, 1) := by decide +kernel
theorem dX3_seen_56 : decode cX3_seen 56 = .ok (.getfield 54, 3) := by decide +kernel
theorem dX3_seen_59 : decode cX3_seen 59 = .ok (.iload_n 2, 1) := by decide +kernel
theorem dX3_seen_60 : decode cX3_seen 60 = .ok (.baload, 1) := by decide +kernel
theorem dX3_seen_61 : decode cX3_seen 61 = .ok (.ifCond .eq 7, 3) := by decide +kernel
theorem dX3_seen_64 : decode cX3_seen 64 = .ok (.iconst 2, 1) := by decide +kernel
theorem dX3_seen_65 : decode cX3_seen 65 = .ok (.goto 26, 3) := by decide +kernel
theorem dX3_seen_68 : decode cX3_seen 68 = .ok (.aload_n 0, 1) := by decide +kernel
theorem dX3_seen_69 : decode cX3_seen 69 = .ok (.getfield 42, 3) := by decide +kernel
theorem dX3_seen_72 : decode cX3_seen 72 = .ok (.bipush 10, 2) := by decide +kernel
theorem dX3_seen_74 : decode cX3_seen 74 = .ok (.iload_n 2, 1) := by decide +kernel
theorem dX3_seen_75 : decode cX3_seen 75 = .ok (.iconst (-1), 1) := by decide +kernel
theorem dX3_seen_76 : decode cX3_seen 76 = .ok (.invokestatic 90, 3) := by decide +kernel
theorem dX3_seen_79 : decode cX3_seen 79 = .ok (.imul, 1) := by decide +kernel
theorem dX3_seen_80 : decode cX3_seen 80 = .ok (.iload_n 1, 1) := by decide +kernel
theorem dX3_seen_81 : decode cX3_seen 81 = .ok (.iadd, 1) := by decide +kernel
theorem dX3_seen_82 : decode cX3_seen 82 = .ok (.baload, 1) := by decide +kernel
theorem dX3_seen_83 : decode cX3_seen 83 = .ok (.ifCond .eq 7, 3) := by decide +kernel
theorem dX3_seen_86 : decode cX3_seen 86 = .ok (.iconst 1, 1) := by decide +kernel
theorem dX3_seen_87 : decode cX3_seen 87 = .ok (.goto 4, 3) := by decide +kernel
theorem dX3_seen_90 : decode cX3_seen 90 = .ok (.iconst 0, 1) := by decide +kernel
theorem dX3_seen_91 : decode cX3_seen 91 = .ok (.ireturn, 1) := by decide +kernel
theorem dX3_votes_0 : decode cX3_votes 0 = .ok (.aload_n 0, 1) := by decide +kernel
theorem dX3_votes_1 : decode cX3_votes 1 = .ok (.iconst 0, 1) := by decide +kernel
theorem dX3_votes_2 : decode cX3_votes 2 = .ok (.putfield 1, 3) := by decide +kernel
theorem dX3_votes_5 : decode cX3_votes 5 = .ok (.aload_n 0, 1) := by decide +kernel
theorem dX3_votes_6 : decode cX3_votes 6 = .ok (.iload_n 1, 1) := by decide +kernel
theorem dX3_votes_7 : decode cX3_votes 7 = .ok (.invokevirtual 82, 3) := by decide +kernel
theorem dX3_votes_10 : decode cX3_votes 10 = .ok (.ifCond .eq 20, 3) := by decide +kernel
theorem dX3_votes_13 : decode cX3_votes 13 = .ok (.aload_n 0, 1) := by decide +kernel
theorem dX3_votes_14 : decode cX3_votes 14 = .ok (.iload_n 2, 1) := by decide +kernel
theorem dX3_votes_15 : decode cX3_votes 15 = .ok (.invokevirtual 130, 3) := by decide +kernel
theorem dX3_votes_18 : decode cX3_votes 18 = .ok (.ifCond .eq 12, 3) := by decide +kernel
theorem dX3_votes_21 : decode cX3_votes 21 = .ok (.aload_n 0, 1) := by decide +kernel
theorem dX3_votes_22 : decode cX3_votes 22 = .ok (.iload_n 1, 1) := by decide +kernel
theorem dX3_votes_23 : decode cX3_votes 23 = .ok (.iload_n 2, 1) := by decide +kernel
theorem dX3_votes_24 : decode cX3_votes 24 = .ok (.invokevirtual 100, 3) := by decide +kernel
theorem dX3_votes_27 : decode cX3_votes 27 = .ok (.goto 5, 3) := by decide +kernel
theorem dX3_votes_30 : decode cX3_votes 30 = .ok (.bipush (-2), 2) := by decide +kernel
theorem dX3_votes_32 : decode cX3_votes 32 = .ok (.ireturn, 1) := by decide +kernel
theorem dX3_voted_0 : decode cX3_voted 0 = .ok (.aload_n 0, 1) := by decide +kernel
theorem dX3_voted_1 : decode cX3_voted 1 = .ok (.iconst 0, 1) := by decide +kernel
theorem dX3_voted_2 : decode cX3_voted 2 = .ok (.putfield 1, 3) := by decide +kernel
theorem dX3_voted_5 : decode cX3_voted 5 = .ok (.aload_n 0, 1) := by decide +kernel
theorem dX3_voted_6 : decode cX3_voted 6 = .ok (.iload_n 1, 1) := by decide +kernel
theorem dX3_voted_7 : decode cX3_voted 7 = .ok (.invokevirtual 82, 3) := by decide +kernel
theorem dX3_voted_10 : decode cX3_voted 10 = .ok (.ifCond .eq 24, 3) := by decide +kernel
theorem dX3_voted_13 : decode cX3_voted 13 = .ok (.iload_n 2, 1) := by decide +kernel
theorem dX3_voted_14 : decode cX3_voted 14 = .ok (.invokestatic 78, 3) := by decide +kernel
theorem dX3_voted_17 : decode cX3_voted 17 = .ok (.ifCond .eq 17, 3) := by decide +kernel
theorem dX3_voted_20 : decode cX3_voted 20 = .ok (.aload_n 0, 1) := by decide +kernel
theorem dX3_voted_21 : decode cX3_voted 21 = .ok (.getfield 51, 3) := by decide +kernel
theorem dX3_voted_24 : decode cX3_voted 24 = .ok (.bipush 41, 2) := by decide +kernel
theorem dX3_voted_26 : decode cX3_voted 26 = .ok (.iload_n 1, 1) := by decide +kernel
theorem dX3_voted_27 : decode cX3_voted 27 = .ok (.imul, 1) := by decide +kernel
theorem dX3_voted_28 : decode cX3_voted 28 = .ok (.iload_n 2, 1) := by decide +kernel
theorem dX3_voted_29 : decode cX3_voted 29 = .ok (.iadd, 1) := by decide +kernel
theorem dX3_voted_30 : decode cX3_voted 30 = .ok (.iaload, 1) := by decide +kernel
theorem dX3_voted_31 : decode cX3_voted 31 = .ok (.goto 5, 3) := by decide +kernel
theorem dX3_voted_34 : decode cX3_voted 34 = .ok (.bipush (-2), 2) := by decide +kernel
theorem dX3_voted_36 : decode cX3_voted 36 = .ok (.ireturn, 1) := by decide +kernel
theorem dX3_reach_0 : decode cX3_reach 0 = .ok (.aload_n 0, 1) := by decide +kernel
theorem dX3_reach_1 : decode cX3_reach 1 = .ok (.iconst 0, 1) := by decide +kernel
theorem dX3_reach_2 : decode cX3_reach 2 = .ok (.putfield 1, 3) := by decide +kernel
theorem dX3_reach_5 : decode cX3_reach 5 = .ok (.aload_n 0, 1) := by decide +kernel
theorem dX3_reach_6 : decode cX3_reach 6 = .ok (.iload_n 1, 1) := by decide +kernel
theorem dX3_reach_7 : decode cX3_reach 7 = .ok (.invokevirtual 82, 3) := by decide +kernel
theorem dX3_reach_10 : decode cX3_reach 10 = .ok (.ifCond .eq 15, 3) := by decide +kernel
theorem dX3_reach_13 : decode cX3_reach 13 = .ok (.iload_n 2, 1) := by decide +kernel
theorem dX3_reach_14 : decode cX3_reach 14 = .ok (.i2l, 1) := by decide +kernel
theorem dX3_reach_15 : decode cX3_reach 15 = .ok (.lconst 0, 1) := by decide +kernel
theorem dX3_reach_16 : decode cX3_reach 16 = .ok (.ldc2_w 148, 3) := by decide +kernel
theorem dX3_reach_19 : decode cX3_reach 19 = .ok (.invokestatic 72, 3) := by decide +kernel
theorem dX3_reach_22 : decode cX3_reach 22 = .ok (.ifCond .ne 6, 3) := by decide +kernel
theorem dX3_reach_25 : decode cX3_reach 25 = .ok (.bipush (-2), 2) := by decide +kernel
theorem dX3_reach_27 : decode cX3_reach 27 = .ok (.ireturn, 1) := by decide +kernel
theorem dX3_reach_28 : decode cX3_reach 28 = .ok (.aload_n 0, 1) := by decide +kernel
theorem dX3_reach_29 : decode cX3_reach 29 = .ok (.iload_n 1, 1) := by decide +kernel
theorem dX3_reach_30 : decode cX3_reach 30 = .ok (.invokevirtual 109, 3) := by decide +kernel
theorem dX3_reach_33 : decode cX3_reach 33 = .ok (.iload_n 2, 1) := by decide +kernel
theorem dX3_reach_34 : decode cX3_reach 34 = .ok (.ifCond .ne 10, 3) := by decide +kernel
theorem dX3_reach_37 : decode cX3_reach 37 = .ok (.aload_n 0, 1) := by decide +kernel
theorem dX3_reach_38 : decode cX3_reach 38 = .ok (.getfield 94, 3) := by decide +kernel
theorem dX3_reach_41 : decode cX3_reach 41 = .ok (.goto 19, 3) := by decide +kernel
theorem dX3_reach_44 : decode cX3_reach 44 = .ok (.iload_n 2, 1) := by decide +kernel
theorem dX3_reach_45 : decode cX3_reach 45 = .ok (.iconst 1, 1) := by decide +kernel
theorem dX3_reach_46 : decode cX3_reach 46 = .ok (.if_icmp .ne 10, 3) := by decide +kernel
theorem dX3_reach_49 : decode cX3_reach 49 = .ok (.aload_n 0, 1) := by decide +kernel
theorem dX3_reach_50 : decode cX3_reach 50 = .ok (.getfield 97, 3) := by decide +kernel
theorem dX3_reach_53 : decode cX3_reach 53 = .ok (.goto 7, 3) := by decide +kernel
theorem dX3_reach_56 : decode cX3_reach 56 = .ok (.aload_n 0, 1) := by decide +kernel
theorem dX3_reach_57 : decode cX3_reach 57 = .ok (.getfield 103, 3) := by decide +kernel
theorem dX3_reach_60 : decode cX3_reach 60 = .ok (.ireturn, 1) := by decide +kernel
theorem dX3_ledger_0 : decode cX3_ledger 0 = .ok (.aload_n 0, 1) := by decide +kernel
theorem dX3_ledger_1 : decode cX3_ledger 1 = .ok (.iconst 0, 1) := by decide +kernel
theorem dX3_ledger_2 : decode cX3_ledger 2 = .ok (.putfield 1, 3) := by decide +kernel
theorem dX3_ledger_5 : decode cX3_ledger 5 = .ok (.aload_n 0, 1) := by decide +kernel
theorem dX3_ledger_6 : decode cX3_ledger 6 = .ok (.iload_n 1, 1) := by decide +kernel
theorem dX3_ledger_7 : decode cX3_ledger 7 = .ok (.invokevirtual 82, 3) := by decide +kernel
theorem dX3_ledger_10 : decode cX3_ledger 10 = .ok (.ifCond .ne 6, 3) := by decide +kernel
theorem dX3_ledger_13 : decode cX3_ledger 13 = .ok (.bipush (-2), 2) := by decide +kernel
theorem dX3_ledger_15 : decode cX3_ledger 15 = .ok (.ireturn, 1) := by decide +kernel
theorem dX3_ledger_16 : decode cX3_ledger 16 = .ok (.aload_n 0, 1) := by decide +kernel
theorem dX3_ledger_17 : decode cX3_ledger 17 = .ok (.iload_n 1, 1) := by decide +kernel
theorem dX3_ledger_18 : decode cX3_ledger 18 = .ok (.invokevirtual 109, 3) := by decide +kernel
theorem dX3_ledger_21 : decode cX3_ledger 21 = .ok (.iconst 0, 1) := by decide +kernel
theorem dX3_ledger_22 : decode cX3_ledger 22 = .ok (.istore_n 3, 1) := by decide +kernel
theorem dX3_ledger_23 : decode cX3_ledger 23 = .ok (.aload_n 0, 1) := by decide +kernel
theorem dX3_ledger_24 : decode cX3_ledger 24 = .ok (.getfield 103, 3) := by decide +kernel
theorem dX3_ledger_27 : decode cX3_ledger 27 = .ok (.istore 4, 2) := by decide +kernel
theorem dX3_ledger_29 : decode cX3_ledger 29 = .ok (.iload 4, 2) := by decide +kernel
theorem dX3_ledger_31 : decode cX3_ledger 31 = .ok (.iconst (-1), 1) := by decide +kernel
theorem dX3_ledger_32 : decode cX3_ledger 32 = .ok (.if_icmp .eq 26, 3) := by decide +kernel
theorem dX3_ledger_35 : decode cX3_ledger 35 = .ok (.aload_n 0, 1) := by decide +kernel
theorem dX3_ledger_36 : decode cX3_ledger 36 = .ok (.getfield 66, 3) := by decide +kernel
theorem dX3_ledger_39 : decode cX3_ledger 39 = .ok (.iload_n 3, 1) := by decide +kernel
theorem dX3_ledger_40 : decode cX3_ledger 40 = .ok (.iload 4, 2) := by decide +kernel
theorem dX3_ledger_42 : decode cX3_ledger 42 = .ok (.iastore, 1) := by decide +kernel
theorem dX3_ledger_43 : decode cX3_ledger 43 = .ok (.iinc 3 1, 3) := by decide +kernel
theorem dX3_ledger_46 : decode cX3_ledger 46 = .ok (.aload_n 0, 1) := by decide +kernel
theorem dX3_ledger_47 : decode cX3_ledger 47 = .ok (.getfield 27, 3) := by decide +kernel
theorem dX3_ledger_50 : decode cX3_ledger 50 = .ok (.iload 4, 2) := by decide +kernel
theorem dX3_ledger_52 : decode cX3_ledger 52 = .ok (.iaload, 1) := by decide +kernel
theorem dX3_ledger_53 : decode cX3_ledger 53 = .ok (.istore 4, 2) := by decide +kernel
theorem dX3_ledger_55 : decode cX3_ledger 55 = .ok (.goto (-26), 3) := by decide +kernel
theorem dX3_ledger_58 : decode cX3_ledger 58 = .ok (.iconst 0, 1) := by decide +kernel
theorem dX3_ledger_59 : decode cX3_ledger 59 = .ok (.istore 4, 2) := by decide +kernel
theorem dX3_ledger_61 : decode cX3_ledger 61 = .ok (.iload_n 2, 1) := by decide +kernel
theorem dX3_ledger_62 : decode cX3_ledger 62 = .ok (.istore 5, 2) := by decide +kernel
theorem dX3_ledger_64 : decode cX3_ledger 64 = .ok (.iload_n 3, 1) := by decide +kernel
theorem dX3_ledger_65 : decode cX3_ledger 65 = .ok (.iconst 1, 1) := by decide +kernel
theorem dX3_ledger_66 : decode cX3_ledger 66 = .ok (.isub, 1) := by decide +kernel
theorem dX3_ledger_67 : decode cX3_ledger 67 = .ok (.istore 6, 2) := by decide +kernel
theorem dX3_ledger_69 : decode cX3_ledger 69 = .ok (.iload 6, 2) := by decide +kernel
theorem dX3_ledger_71 : decode cX3_ledger 71 = .ok (.ifCond .lt 73, 3) := by decide +kernel
theorem dX3_ledger_74 : decode cX3_ledger 74 = .ok (.aload_n 0, 1) := by decide +kernel
theorem dX3_ledger_75 : decode cX3_ledger 75 = .ok (.getfield 33, 3) := by decide +kernel
theorem dX3_ledger_78 : decode cX3_ledger 78 = .ok (.aload_n 0, 1) := by decide +kernel
theorem dX3_ledger_79 : decode cX3_ledger 79 = .ok (.getfield 66, 3) := by decide +kernel
theorem dX3_ledger_82 : decode cX3_ledger 82 = .ok (.iload 6, 2) := by decide +kernel
theorem dX3_ledger_84 : decode cX3_ledger 84 = .ok (.iaload, 1) := by decide +kernel
theorem dX3_ledger_85 : decode cX3_ledger 85 = .ok (.iaload, 1) := by decide +kernel
theorem dX3_ledger_86 : decode cX3_ledger 86 = .ok (.iload 4, 2) := by decide +kernel
theorem dX3_ledger_88 : decode cX3_ledger 88 = .ok (.iconst (-1), 1) := by decide +kernel
theorem dX3_ledger_89 : decode cX3_ledger 89 = .ok (.ixor, 1) := by decide +kernel
theorem dX3_ledger_90 : decode cX3_ledger 90 = .ok (.iand, 1) := by decide +kernel
theorem dX3_ledger_91 : decode cX3_ledger 91 = .ok (.istore 7, 2) := by decide +kernel
theorem dX3_ledger_93 : decode cX3_ledger 93 = .ok (.iload 4, 2) := by decide +kernel
theorem dX3_ledger_95 : decode cX3_ledger 95 = .ok (.iload 7, 2) := by decide +kernel
theorem dX3_ledger_97 : decode cX3_ledger 97 = .ok (.ior, 1) := by decide +kernel
theorem dX3_ledger_98 : decode cX3_ledger 98 = .ok (.istore 4, 2) := by decide +kernel
theorem dX3_ledger_100 : decode cX3_ledger 100 = .ok (.iconst 0, 1) := by decide +kernel
theorem dX3_ledger_101 : decode cX3_ledger 101 = .ok (.istore 8, 2) := by decide +kernel
theorem dX3_ledger_103 : decode cX3_ledger 103 = .ok (.iload 8, 2) := by decide +kernel
theorem dX3_ledger_105 : decode cX3_ledger 105 = .ok (.bipush 32, 2) := by decide +kernel
theorem dX3_ledger_107 : decode cX3_ledger 107 = .ok (.if_icmp .ge 31, 3) := by decide +kernel
theorem dX3_ledger_110 : decode cX3_ledger 110 = .ok (.iload 7, 2) := by decide +kernel
theorem dX3_ledger_112 : decode cX3_ledger 112 = .ok (.iload 8, 2) := by decide +kernel
theorem dX3_ledger_114 : decode cX3_ledger 114 = .ok (.iushr, 1) := by decide +kernel
theorem dX3_ledger_115 : decode cX3_ledger 115 = .ok (.iconst 1, 1) := by decide +kernel
theorem dX3_ledger_116 : decode cX3_ledger 116 = .ok (.iand, 1) := by decide +kernel
theorem dX3_ledger_117 : decode cX3_ledger 117 = .ok (.iconst 1, 1) := by decide +kernel
theorem dX3_ledger_118 : decode cX3_ledger 118 = .ok (.if_icmp .ne 14, 3) := by decide +kernel
theorem dX3_ledger_121 : decode cX3_ledger 121 = .ok (.iload 5, 2) := by decide +kernel
theorem dX3_ledger_123 : decode cX3_ledger 123 = .ok (.ifCond .ne 6, 3) := by decide +kernel
theorem dX3_ledger_126 : decode cX3_ledger 126 = .ok (.iload 8, 2) := by decide +kernel
theorem dX3_ledger_128 : decode cX3_ledger 128 = .ok (.ireturn, 1) := by decide +kernel
theorem dX3_ledger_129 : decode cX3_ledger 129 = .ok (.iinc 5 (-1), 3) := by decide +kernel
theorem dX3_ledger_132 : decode cX3_ledger 132 = .ok (.iinc 8 1, 3) := by decide +kernel
theorem dX3_ledger_135 : decode cX3_ledger 135 = .ok (.goto (-32), 3) := by decide +kernel
theorem dX3_ledger_138 : decode cX3_ledger 138 = .ok (.iinc 6 (-1), 3) := by decide +kernel
theorem dX3_ledger_141 : decode cX3_ledger 141 = .ok (.goto (-72), 3) := by decide +kernel
theorem dX3_ledger_144 : decode cX3_ledger 144 = .ok (.iconst (-1), 1) := by decide +kernel
theorem dX3_ledger_145 : decode cX3_ledger 145 = .ok (.ireturn, 1) := by decide +kernel
theorem dX3_isInChain_0 : decode cX3_isInChain 0 = .ok (.iload_n 2, 1) := by decide +kernel
theorem dX3_isInChain_1 : decode cX3_isInChain 1 = .ok (.istore_n 3, 1) := by decide +kernel
theorem dX3_isInChain_2 : decode cX3_isInChain 2 = .ok (.iload_n 3, 1) := by decide +kernel
theorem dX3_isInChain_3 : decode cX3_isInChain 3 = .ok (.iconst (-1), 1) := by decide +kernel
theorem dX3_isInChain_4 : decode cX3_isInChain 4 = .ok (.if_icmp .eq 18, 3) := by decide +kernel
theorem dX3_isInChain_7 : decode cX3_isInChain 7 = .ok (.iload_n 3, 1) := by decide +kernel
theorem dX3_isInChain_8 : decode cX3_isInChain 8 = .ok (.iload_n 1, 1) := by decide +kernel
theorem dX3_isInChain_9 : decode cX3_isInChain 9 = .ok (.if_icmp .eq 13, 3) := by decide +kernel
theorem dX3_isInChain_12 : decode cX3_isInChain 12 = .ok (.aload_n 0, 1) := by decide +kernel
theorem dX3_isInChain_13 : decode cX3_isInChain 13 = .ok (.getfield 27, 3) := by decide +kernel
theorem dX3_isInChain_16 : decode cX3_isInChain 16 = .ok (.iload_n 3, 1) := by decide +kernel
theorem dX3_isInChain_17 : decode cX3_isInChain 17 = .ok (.iaload, 1) := by decide +kernel
theorem dX3_isInChain_18 : decode cX3_isInChain 18 = .ok (.istore_n 3, 1) := by decide +kernel
theorem dX3_isInChain_19 : decode cX3_isInChain 19 = .ok (.goto (-17), 3) := by decide +kernel
theorem dX3_isInChain_22 : decode cX3_isInChain 22 = .ok (.iload_n 3, 1) := by decide +kernel
theorem dX3_isInChain_23 : decode cX3_isInChain 23 = .ok (.iload_n 1, 1) := by decide +kernel
theorem dX3_isInChain_24 : decode cX3_isInChain 24 = .ok (.if_icmp .ne 7, 3) := by decide +kernel
theorem dX3_isInChain_27 : decode cX3_isInChain 27 = .ok (.iconst 1, 1) := by decide +kernel
theorem dX3_isInChain_28 : decode cX3_isInChain 28 = .ok (.goto 4, 3) := by decide +kernel
theorem dX3_isInChain_31 : decode cX3_isInChain 31 = .ok (.iconst 0, 1) := by decide +kernel
theorem dX3_isInChain_32 : decode cX3_isInChain 32 = .ok (.ireturn, 1) := by decide +kernel
theorem dX3_agree_0 : decode cX3_agree 0 = .ok (.aload_n 0, 1) := by decide +kernel
theorem dX3_agree_1 : decode cX3_agree 1 = .ok (.iconst 0, 1) := by decide +kernel
theorem dX3_agree_2 : decode cX3_agree 2 = .ok (.putfield 1, 3) := by decide +kernel
theorem dX3_agree_5 : decode cX3_agree 5 = .ok (.iconst 0, 1) := by decide +kernel
theorem dX3_agree_6 : decode cX3_agree 6 = .ok (.istore_n 1, 1) := by decide +kernel
theorem dX3_agree_7 : decode cX3_agree 7 = .ok (.iconst 0, 1) := by decide +kernel
theorem dX3_agree_8 : decode cX3_agree 8 = .ok (.istore_n 2, 1) := by decide +kernel
theorem dX3_agree_9 : decode cX3_agree 9 = .ok (.iload_n 2, 1) := by decide +kernel
theorem dX3_agree_10 : decode cX3_agree 10 = .ok (.aload_n 0, 1) := by decide +kernel
theorem dX3_agree_11 : decode cX3_agree 11 = .ok (.getfield 69, 3) := by decide +kernel
theorem dX3_agree_14 : decode cX3_agree 14 = .ok (.if_icmp .ge 57, 3) := by decide +kernel
theorem dX3_agree_17 : decode cX3_agree 17 = .ok (.aload_n 0, 1) := by decide +kernel
theorem dX3_agree_18 : decode cX3_agree 18 = .ok (.getfield 13, 3) := by decide +kernel
theorem dX3_agree_21 : decode cX3_agree 21 = .ok (.iload_n 2, 1) := by decide +kernel
theorem dX3_agree_22 : decode cX3_agree 22 = .ok (.baload, 1) := by decide +kernel
theorem dX3_agree_23 : decode cX3_agree 23 = .ok (.ifCond .ne 42, 3) := by decide +kernel
theorem dX3_agree_26 : decode cX3_agree 26 = .ok (.aload_n 0, 1) := by decide +kernel
theorem dX3_agree_27 : decode cX3_agree 27 = .ok (.iload_n 2, 1) := by decide +kernel
theorem dX3_agree_28 : decode cX3_agree 28 = .ok (.invokevirtual 109, 3) := by decide +kernel
theorem dX3_agree_31 : decode cX3_agree 31 = .ok (.aload_n 0, 1) := by decide +kernel
theorem dX3_agree_32 : decode cX3_agree 32 = .ok (.iload_n 1, 1) := by decide +kernel
theorem dX3_agree_33 : decode cX3_agree 33 = .ok (.aload_n 0, 1) := by decide +kernel
theorem dX3_agree_34 : decode cX3_agree 34 = .ok (.getfield 103, 3) := by decide +kernel
theorem dX3_agree_37 : decode cX3_agree 37 = .ok (.invokevirtual 150, 3) := by decide +kernel
theorem dX3_agree_40 : decode cX3_agree 40 = .ok (.ifCond .eq 11, 3) := by decide +kernel
theorem dX3_agree_43 : decode cX3_agree 43 = .ok (.aload_n 0, 1) := by decide +kernel
theorem dX3_agree_44 : decode cX3_agree 44 = .ok (.getfield 103, 3) := by decide +kernel
theorem dX3_agree_47 : decode cX3_agree 47 = .ok (.istore_n 1, 1) := by decide +kernel
theorem dX3_agree_48 : decode cX3_agree 48 = .ok (.goto 17, 3) := by decide +kernel
theorem dX3_agree_51 : decode cX3_agree 51 = .ok (.aload_n 0, 1) := by decide +kernel
theorem dX3_agree_52 : decode cX3_agree 52 = .ok (.aload_n 0, 1) := by decide +kernel
theorem dX3_agree_53 : decode cX3_agree 53 = .ok (.getfield 103, 3) := by decide +kernel
theorem dX3_agree_56 : decode cX3_agree 56 = .ok (.iload_n 1, 1) := by decide +kernel
theorem dX3_agree_57 : decode cX3_agree 57 = .ok (.invokevirtual 150, 3) := by decide +kernel
theorem dX3_agree_60 : decode cX3_agree 60 = .ok (.ifCond .ne 5, 3) := by decide +kernel
theorem dX3_agree_63 : decode cX3_agree 63 = .ok (.iconst 0, 1) := by decide +kernel
theorem dX3_agree_64 : decode cX3_agree 64 = .ok (.ireturn, 1) := by decide +kernel
theorem dX3_agree_65 : decode cX3_agree 65 = .ok (.iinc 2 1, 3) := by decide +kernel
theorem dX3_agree_68 : decode cX3_agree 68 = .ok (.goto (-59), 3) := by decide +kernel
theorem dX3_agree_71 : decode cX3_agree 71 = .ok (.iconst 1, 1) := by decide +kernel
theorem dX3_agree_72 : decode cX3_agree 72 = .ok (.ireturn, 1) := by decide +kernel
theorem dX3_count_0 : decode cX3_count 0 = .ok (.aload_n 0, 1) := by decide +kernel
theorem dX3_count_1 : decode cX3_count 1 = .ok (.iconst 0, 1) := by decide +kernel
theorem dX3_count_2 : decode cX3_count 2 = .ok (.putfield 1, 3) := by decide +kernel
theorem dX3_count_5 : decode cX3_count 5 = .ok (.iconst 0, 1) := by decide +kernel
theorem dX3_count_6 : decode cX3_count 6 = .ok (.istore_n 2, 1) := by decide +kernel
theorem dX3_count_7 : decode cX3_count 7 = .ok (.iload_n 1, 1) := by decide +kernel
theorem dX3_count_8 : decode cX3_count 8 = .ok (.tableswitch 142 0 6 #[44, 49, 54, 59, 94, 132, 137], 44) := by decide +kernel
theorem dX3_count_52 : decode cX3_count 52 = .ok (.aload_n 0, 1) := by decide +kernel
theorem dX3_count_53 : decode cX3_count 53 = .ok (.getfield 69, 3) := by decide +kernel
theorem dX3_count_56 : decode cX3_count 56 = .ok (.ireturn, 1) := by decide +kernel
theorem dX3_count_57 : decode cX3_count 57 = .ok (.aload_n 0, 1) := by decide +kernel
theorem dX3_count_58 : decode cX3_count 58 = .ok (.getfield 85, 3) := by decide +kernel
theorem dX3_count_61 : decode cX3_count 61 = .ok (.ireturn, 1) := by decide +kernel
theorem dX3_count_62 : decode cX3_count 62 = .ok (.aload_n 0, 1) := by decide +kernel
theorem dX3_count_63 : decode cX3_count 63 = .ok (.getfield 24, 3) := by decide +kernel
theorem dX3_count_66 : decode cX3_count 66 = .ok (.ireturn, 1) := by decide +kernel
theorem dX3_count_67 : decode cX3_count 67 = .ok (.iconst 0, 1) := by decide +kernel
theorem dX3_count_68 : decode cX3_count 68 = .ok (.istore_n 3, 1) := by decide +kernel
theorem dX3_count_69 : decode cX3_count 69 = .ok (.iload_n 3, 1) := by decide +kernel
theorem dX3_count_70 : decode cX3_count 70 = .ok (.aload_n 0, 1) := by decide +kernel
theorem dX3_count_71 : decode cX3_count 71 = .ok (.getfield 69, 3) := by decide +kernel
theorem dX3_count_74 : decode cX3_count 74 = .ok (.if_icmp .ge 26, 3) := by decide +kernel
theorem dX3_count_77 : decode cX3_count 77 = .ok (.iload_n 2, 1) := by decide +kernel
theorem dX3_count_78 : decode cX3_count 78 = .ok (.aload_n 0, 1) := by decide +kernel
theorem dX3_count_79 : decode cX3_count 79 = .ok (.getfield 13, 3) := by decide +kernel
theorem dX3_count_82 : decode cX3_count 82 = .ok (.iload_n 3, 1) := by decide +kernel
theorem dX3_count_83 : decode cX3_count 83 = .ok (.baload, 1) := by decide +kernel
theorem dX3_count_84 : decode cX3_count 84 = .ok (.ifCond .eq 7, 3) := by decide +kernel
theorem dX3_count_87 : decode cX3_count 87 = .ok (.iconst 1, 1) := by decide +kernel
theorem dX3_count_88 : decode cX3_count 88 = .ok (.goto 4, 3) := by decide +kernel
theorem dX3_count_91 : decode cX3_count 91 = .ok (.iconst 0, 1) := by decide +kernel
theorem dX3_count_92 : decode cX3_count 92 = .ok (.iadd, 1) := by decide +kernel
theorem dX3_count_93 : decode cX3_count 93 = .ok (.istore_n 2, 1) := by decide +kernel
theorem dX3_count_94 : decode cX3_count 94 = .ok (.iinc 3 1, 3) := by decide +kernel
theorem dX3_count_97 : decode cX3_count 97 = .ok (.goto (-28), 3) := by decide +kernel
theorem dX3_count_100 : decode cX3_count 100 = .ok (.iload_n 2, 1) := by decide +kernel
theorem dX3_count_101 : decode cX3_count 101 = .ok (.ireturn, 1) := by decide +kernel
theorem dX3_count_102 : decode cX3_count 102 = .ok (.iconst 0, 1) := by decide +kernel
theorem dX3_count_103 : decode cX3_count 103 = .ok (.istore_n 3, 1) := by decide +kernel
theorem dX3_count_104 : decode cX3_count 104 = .ok (.iload_n 3, 1) := by decide +kernel
theorem dX3_count_105 : decode cX3_count 105 = .ok (.bipush 110, 2) := by decide +kernel
theorem dX3_count_107 : decode cX3_count 107 = .ok (.aload_n 0, 1) := by decide +kernel
theorem dX3_count_108 : decode cX3_count 108 = .ok (.getfield 24, 3) := by decide +kernel
theorem dX3_count_111 : decode cX3_count 111 = .ok (.imul, 1) := by decide +kernel
theorem dX3_count_112 : decode cX3_count 112 = .ok (.if_icmp .ge 26, 3) := by decide +kernel
theorem dX3_count_115 : decode cX3_count 115 = .ok (.iload_n 2, 1) := by decide +kernel
theorem dX3_count_116 : decode cX3_count 116 = .ok (.aload_n 0, 1) := by decide +kernel
theorem dX3_count_117 : decode cX3_count 117 = .ok (.getfield 45, 3) := by decide +kernel
theorem dX3_count_120 : decode cX3_count 120 = .ok (.iload_n 3, 1) := by decide +kernel
theorem dX3_count_121 : decode cX3_count 121 = .ok (.baload, 1) := by decide +kernel
theorem dX3_count_122 : decode cX3_count 122 = .ok (.ifCond .eq 7, 3) := by decide +kernel
theorem dX3_count_125 : decode cX3_count 125 = .ok (.iconst 1, 1) := by decide +kernel
theorem dX3_count_126 : decode cX3_count 126 = .ok (.goto 4, 3) := by decide +kernel
theorem dX3_count_129 : decode cX3_count 129 = .ok (.iconst 0, 1) := by decide +kernel
theorem dX3_count_130 : decode cX3_count 130 = .ok (.iadd, 1) := by decide +kernel
theorem dX3_count_131 : decode cX3_count 131 = .ok (.istore_n 2, 1) := by decide +kernel
theorem dX3_count_132 : decode cX3_count 132 = .ok (.iinc 3 1, 3) := by decide +kernel
theorem dX3_count_135 : decode cX3_count 135 = .ok (.goto (-31), 3) := by decide +kernel
theorem dX3_count_138 : decode cX3_count 138 = .ok (.iload_n 2, 1) := by decide +kernel
theorem dX3_count_139 : decode cX3_count 139 = .ok (.ireturn, 1) := by decide +kernel
theorem dX3_count_140 : decode cX3_count 140 = .ok (.aload_n 0, 1) := by decide +kernel
theorem dX3_count_141 : decode cX3_count 141 = .ok (.getfield 113, 3) := by decide +kernel
theorem dX3_count_144 : decode cX3_count 144 = .ok (.ireturn, 1) := by decide +kernel
theorem dX3_count_145 : decode cX3_count 145 = .ok (.aload_n 0, 1) := by decide +kernel
theorem dX3_count_146 : decode cX3_count 146 = .ok (.getfield 127, 3) := by decide +kernel
theorem dX3_count_149 : decode cX3_count 149 = .ok (.ireturn, 1) := by decide +kernel
theorem dX3_count_150 : decode cX3_count 150 = .ok (.bipush (-2), 2) := by decide +kernel
theorem dX3_count_152 : decode cX3_count 152 = .ok (.ireturn, 1) := by decide +kernel
