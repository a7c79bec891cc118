theorem dX10_readPart_70 : decode cX10_readPart 70 = .ok (.iload_n 1, 1) := by decide +kernel
theorem dX10_readPart_71 : decode cX10_readPart 71 = .ok (.invokevirtual 165, 3) := by decide +kernel
theorem dX10_readPart_74 : decode cX10_readPart 74 = .ok (.iload_n 1, 1) := by decide +kernel
theorem dX10_readPart_75 : decode cX10_readPart 75 = .ok (.ireturn, 1) := by decide +kernel
theorem dX10_readPart_76 : decode cX10_readPart 76 = .ok (.aload_n 0, 1) := by decide +kernel
theorem dX10_readPart_77 : decode cX10_readPart 77 = .ok (.getfield 167, 3) := by decide +kernel
theorem dX10_readPart_80 : decode cX10_readPart 80 = .ok (.bipush 12, 2) := by decide +kernel
theorem dX10_readPart_82 : decode cX10_readPart 82 = .ok (.if_icmp .ne 11, 3) := by decide +kernel
theorem dX10_readPart_85 : decode cX10_readPart 85 = .ok (.aload_n 0, 1) := by decide +kernel
theorem dX10_readPart_86 : decode cX10_readPart 86 = .ok (.iconst 2, 1) := by decide +kernel
theorem dX10_readPart_87 : decode cX10_readPart 87 = .ok (.iload_n 1, 1) := by decide +kernel
theorem dX10_readPart_88 : decode cX10_readPart 88 = .ok (.invokevirtual 165, 3) := by decide +kernel
theorem dX10_readPart_91 : decode cX10_readPart 91 = .ok (.iload_n 1, 1) := by decide +kernel
theorem dX10_readPart_92 : decode cX10_readPart 92 = .ok (.ireturn, 1) := by decide +kernel
theorem dX10_readPart_93 : decode cX10_readPart 93 = .ok (.aload_n 0, 1) := by decide +kernel
theorem dX10_readPart_94 : decode cX10_readPart 94 = .ok (.getfield 43, 3) := by decide +kernel
theorem dX10_readPart_97 : decode cX10_readPart 97 = .ok (.aload_n 0, 1) := by decide +kernel
theorem dX10_readPart_98 : decode cX10_readPart 98 = .ok (.getfield 167, 3) := by decide +kernel
theorem dX10_readPart_101 : decode cX10_readPart 101 = .ok (.iload_n 2, 1) := by decide +kernel
theorem dX10_readPart_102 : decode cX10_readPart 102 = .ok (.iastore, 1) := by decide +kernel
theorem dX10_readPart_103 : decode cX10_readPart 103 = .ok (.aload_n 0, 1) := by decide +kernel
theorem dX10_readPart_104 : decode cX10_readPart 104 = .ok (.getfield 46, 3) := by decide +kernel
theorem dX10_readPart_107 : decode cX10_readPart 107 = .ok (.aload_n 0, 1) := by decide +kernel
theorem dX10_readPart_108 : decode cX10_readPart 108 = .ok (.getfield 167, 3) := by decide +kernel
theorem dX10_readPart_111 : decode cX10_readPart 111 = .ok (.iconst 0, 1) := by decide +kernel
theorem dX10_readPart_112 : decode cX10_readPart 112 = .ok (.iastore, 1) := by decide +kernel
theorem dX10_readPart_113 : decode cX10_readPart 113 = .ok (.aload_n 0, 1) := by decide +kernel
theorem dX10_readPart_114 : decode cX10_readPart 114 = .ok (.dup, 1) := by decide +kernel
theorem dX10_readPart_115 : decode cX10_readPart 115 = .ok (.getfield 167, 3) := by decide +kernel
theorem dX10_readPart_118 : decode cX10_readPart 118 = .ok (.iconst 1, 1) := by decide +kernel
theorem dX10_readPart_119 : decode cX10_readPart 119 = .ok (.iadd, 1) := by decide +kernel
theorem dX10_readPart_120 : decode cX10_readPart 120 = .ok (.putfield 167, 3) := by decide +kernel
theorem dX10_readPart_123 : decode cX10_readPart 123 = .ok (.iload_n 3, 1) := by decide +kernel
theorem dX10_readPart_124 : decode cX10_readPart 124 = .ok (.ifCond .ne 7, 3) := by decide +kernel
theorem dX10_readPart_127 : decode cX10_readPart 127 = .ok (.iload_n 1, 1) := by decide +kernel
theorem dX10_readPart_128 : decode cX10_readPart 128 = .ok (.iconst 1, 1) := by decide +kernel
theorem dX10_readPart_129 : decode cX10_readPart 129 = .ok (.iadd, 1) := by decide +kernel
theorem dX10_readPart_130 : decode cX10_readPart 130 = .ok (.ireturn, 1) := by decide +kernel
theorem dX10_readPart_131 : decode cX10_readPart 131 = .ok (.iload_n 1, 1) := by decide +kernel
theorem dX10_readPart_132 : decode cX10_readPart 132 = .ok (.iconst 1, 1) := by decide +kernel
theorem dX10_readPart_133 : decode cX10_readPart 133 = .ok (.iadd, 1) := by decide +kernel
theorem dX10_readPart_134 : decode cX10_readPart 134 = .ok (.aload_n 0, 1) := by decide +kernel
theorem dX10_readPart_135 : decode cX10_readPart 135 = .ok (.getfield 129, 3) := by decide +kernel
theorem dX10_readPart_138 : decode cX10_readPart 138 = .ok (.if_icmp .ge 14, 3) := by decide +kernel
theorem dX10_readPart_141 : decode cX10_readPart 141 = .ok (.aload_n 0, 1) := by decide +kernel
theorem dX10_readPart_142 : decode cX10_readPart 142 = .ok (.getfield 28, 3) := by decide +kernel
theorem dX10_readPart_145 : decode cX10_readPart 145 = .ok (.iload_n 1, 1) := by decide +kernel
theorem dX10_readPart_146 : decode cX10_readPart 146 = .ok (.iconst 1, 1) := by decide +kernel
theorem dX10_readPart_147 : decode cX10_readPart 147 = .ok (.iadd, 1) := by decide +kernel
theorem dX10_readPart_148 : decode cX10_readPart 148 = .ok (.baload, 1) := by decide +kernel
theorem dX10_readPart_149 : decode cX10_readPart 149 = .ok (.goto 4, 3) := by decide +kernel
theorem dX10_readPart_152 : decode cX10_readPart 152 = .ok (.iconst 0, 1) := by decide +kernel
theorem dX10_readPart_153 : decode cX10_readPart 153 = .ok (.istore 4, 2) := by decide +kernel
theorem dX10_readPart_155 : decode cX10_readPart 155 = .ok (.iload 4, 2) := by decide +kernel
theorem dX10_readPart_157 : decode cX10_readPart 157 = .ok (.invokestatic 132, 3) := by decide +kernel
theorem dX10_readPart_160 : decode cX10_readPart 160 = .ok (.ifCond .eq 21, 3) := by decide +kernel
theorem dX10_readPart_163 : decode cX10_readPart 163 = .ok (.iload_n 2, 1) := by decide +kernel
theorem dX10_readPart_164 : decode cX10_readPart 164 = .ok (.bipush 37, 2) := by decide +kernel
theorem dX10_readPart_166 : decode cX10_readPart 166 = .ok (.if_icmp .ne 26, 3) := by decide +kernel
theorem dX10_readPart_169 : decode cX10_readPart 169 = .ok (.iload 4, 2) := by decide +kernel
theorem dX10_readPart_171 : decode cX10_readPart 171 = .ok (.bipush 49, 2) := by decide +kernel
theorem dX10_readPart_173 : decode cX10_readPart 173 = .ok (.bipush 52, 2) := by decide +kernel
theorem dX10_readPart_175 : decode cX10_readPart 175 = .ok (.invokestatic 136, 3) := by decide +kernel
theorem dX10_readPart_178 : decode cX10_readPart 178 = .ok (.ifCond .ne 14, 3) := by decide +kernel
theorem dX10_readPart_181 : decode cX10_readPart 181 = .ok (.aload_n 0, 1) := by decide +kernel
theorem dX10_readPart_182 : decode cX10_readPart 182 = .ok (.iconst 1, 1) := by decide +kernel
theorem dX10_readPart_183 : decode cX10_readPart 183 = .ok (.iload_n 1, 1) := by decide +kernel
theorem dX10_readPart_184 : decode cX10_readPart 184 = .ok (.iconst 1, 1) := by decide +kernel
theorem dX10_readPart_185 : decode cX10_readPart 185 = .ok (.iadd, 1) := by decide +kernel
theorem dX10_readPart_186 : decode cX10_readPart 186 = .ok (.invokevirtual 165, 3) := by decide +kernel
theorem dX10_readPart_189 : decode cX10_readPart 189 = .ok (.goto 41, 3) := by decide +kernel
theorem dX10_readPart_192 : decode cX10_readPart 192 = .ok (.iload_n 2, 1) := by decide +kernel
theorem dX10_readPart_193 : decode cX10_readPart 193 = .ok (.bipush 37, 2) := by decide +kernel
theorem dX10_readPart_195 : decode cX10_readPart 195 = .ok (.if_icmp .eq 35, 3) := by decide +kernel
theorem dX10_readPart_198 : decode cX10_readPart 198 = .ok (.iload 4, 2) := by decide +kernel
theorem dX10_readPart_200 : decode cX10_readPart 200 = .ok (.bipush 48, 2) := by decide +kernel
theorem dX10_readPart_202 : decode cX10_readPart 202 = .ok (.isub, 1) := by decide +kernel
theorem dX10_readPart_203 : decode cX10_readPart 203 = .ok (.iconst 1, 1) := by decide +kernel
theorem dX10_readPart_204 : decode cX10_readPart 204 = .ok (.aload_n 0, 1) := by decide +kernel
theorem dX10_readPart_205 : decode cX10_readPart 205 = .ok (.aload_n 0, 1) := by decide +kernel
theorem dX10_readPart_206 : decode cX10_readPart 206 = .ok (.getfield 40, 3) := by decide +kernel
theorem dX10_readPart_209 : decode cX10_readPart 209 = .ok (.aload_n 0, 1) := by decide +kernel
theorem dX10_readPart_210 : decode cX10_readPart 210 = .ok (.getfield 162, 3) := by decide +kernel
theorem dX10_readPart_213 : decode cX10_readPart 213 = .ok (.invokevirtual 170, 3) := by decide +kernel
theorem dX10_readPart_216 : decode cX10_readPart 216 = .ok (.invokestatic 136, 3) := by decide +kernel
theorem dX10_readPart_219 : decode cX10_readPart 219 = .ok (.ifCond .ne 11, 3) := by decide +kernel
theorem dX10_readPart_222 : decode cX10_readPart 222 = .ok (.aload_n 0, 1) := by decide +kernel
theorem dX10_readPart_223 : decode cX10_readPart 223 = .ok (.iconst 3, 1) := by decide +kernel
theorem dX10_readPart_224 : decode cX10_readPart 224 = .ok (.iload_n 1, 1) := by decide +kernel
theorem dX10_readPart_225 : decode cX10_readPart 225 = .ok (.iconst 1, 1) := by decide +kernel
theorem dX10_readPart_226 : decode cX10_readPart 226 = .ok (.iadd, 1) := by decide +kernel
theorem dX10_readPart_227 : decode cX10_readPart 227 = .ok (.invokevirtual 165, 3) := by decide +kernel
theorem dX10_readPart_230 : decode cX10_readPart 230 = .ok (.aload_n 0, 1) := by decide +kernel
theorem dX10_readPart_231 : decode cX10_readPart 231 = .ok (.getfield 46, 3) := by decide +kernel
theorem dX10_readPart_234 : decode cX10_readPart 234 = .ok (.aload_n 0, 1) := by decide +kernel
theorem dX10_readPart_235 : decode cX10_readPart 235 = .ok (.getfield 167, 3) := by decide +kernel
theorem dX10_readPart_238 : decode cX10_readPart 238 = .ok (.iconst 1, 1) := by decide +kernel
theorem dX10_readPart_239 : decode cX10_readPart 239 = .ok (.isub, 1) := by decide +kernel
theorem dX10_readPart_240 : decode cX10_readPart 240 = .ok (.iload 4, 2) := by decide +kernel
theorem dX10_readPart_242 : decode cX10_readPart 242 = .ok (.bipush 48, 2) := by decide +kernel
theorem dX10_readPart_244 : decode cX10_readPart 244 = .ok (.isub, 1) := by decide +kernel
theorem dX10_readPart_245 : decode cX10_readPart 245 = .ok (.iastore, 1) := by decide +kernel
theorem dX10_readPart_246 : decode cX10_readPart 246 = .ok (.iload_n 1, 1) := by decide +kernel
theorem dX10_readPart_247 : decode cX10_readPart 247 = .ok (.iconst 2, 1) := by decide +kernel
theorem dX10_readPart_248 : decode cX10_readPart 248 = .ok (.iadd, 1) := by decide +kernel
theorem dX10_readPart_249 : decode cX10_readPart 249 = .ok (.ireturn, 1) := by decide +kernel
set_option maxRecDepth 20000 in
theorem ggX10_rule_X10_readItems : GoodIn wsX10_rule wsX10_readItems := goodIn_r _ [20, 7, 2, 4, 21, 11, 22, 23, 19, 24, 25, 26, 27, 28, 29, 30, 31, 5, 43, 44, 45, 46, 47, 48, 49, 50, 51, 52, 53, 54, 55, 56, 57, 58, 59, 60, 61, 62, 63, 64, 65, 66, 67, 68, 69, 70, 71, 72, 73, 74, 75, 76, 77, 78, 79, 80, 81, 82, 83, 84, 85, 86] (by decide +kernel) (by decide +kernel)
set_option maxRecDepth 20000 in
theorem gX10_rule_X10_readItems : GoodIn wsX10_rule (wsV RX10 174 RX10 yX10_readItems wsX10_readItems) := goodIn_app (goodIn_of _ (by decide +kernel)) ggX10_rule_X10_readItems
set_option maxRecDepth 20000 in
theorem ggX10_rule_X10_readPart : GoodIn wsX10_rule wsX10_readPart := goodIn_r _ [35, 4, 21, 3, 13, 15, 11, 7, 22, 23, 19, 24, 25, 26, 27, 28, 29, 30, 31, 2, 5, 36, 37, 38, 39, 40, 41, 42, 43, 44, 45, 46, 47, 48, 49, 50, 51, 52, 53, 54, 55, 56, 57, 58, 59, 60, 61, 62, 63, 64, 65, 66, 67, 68, 69, 70, 71, 72, 73, 74, 75, 76, 77, 78, 79, 80, 81, 82, 83, 84, 85, 86] (by decide +kernel) (by decide +kernel)
set_option maxRecDepth 20000 in
theorem gX10_rule_X10_readPart : GoodIn wsX10_rule (wsV RX10 177 RX10 yX10_readPart wsX10_readPart) := goodIn_app (goodIn_of _ (by decide +kernel)) ggX10_rule_X10_readPart
theorem dX10_rule_0 : decode cX10_rule 0 = .ok (.aload_n 0, 1) := by decide +kernel
theorem dX10_rule_1 : decode cX10_rule 1 = .ok (.iconst 0, 1) := by decide +kernel
theorem dX10_rule_2 : decode cX10_rule 2 = .ok (.putfield 1, 3) := by decide +kernel
theorem dX10_rule_5 : decode cX10_rule 5 = .ok (.aload_n 0, 1) := by decide +kernel
theorem dX10_rule_6 : decode cX10_rule 6 = .ok (.iconst 0, 1) := by decide +kernel
theorem dX10_rule_7 : decode cX10_rule 7 = .ok (.putfield 156, 3) := by decide +kernel
theorem dX10_rule_10 : decode cX10_rule 10 = .ok (.aload_n 0, 1) := by decide +kernel
theorem dX10_rule_11 : decode cX10_rule 11 = .ok (.iconst 0, 1) := by decide +kernel
theorem dX10_rule_12 : decode cX10_rule 12 = .ok (.putfield 167, 3) := by decide +kernel
theorem dX10_rule_15 : decode cX10_rule 15 = .ok (.aload_n 0, 1) := by decide +kernel
theorem dX10_rule_16 : decode cX10_rule 16 = .ok (.invokevirtual 174, 3) := by decide +kernel
theorem dX10_rule_19 : decode cX10_rule 19 = .ok (.istore_n 1, 1) := by decide +kernel
theorem dX10_rule_20 : decode cX10_rule 20 = .ok (.aload_n 0, 1) := by decide +kernel
theorem dX10_rule_21 : decode cX10_rule 21 = .ok (.getfield 156, 3) := by decide +kernel
theorem dX10_rule_24 : decode cX10_rule 24 = .ok (.ifCond .ne 27, 3) := by decide +kernel
theorem dX10_rule_27 : decode cX10_rule 27 = .ok (.iload_n 1, 1) := by decide +kernel
theorem dX10_rule_28 : decode cX10_rule 28 = .ok (.aload_n 0, 1) := by decide +kernel
theorem dX10_rule_29 : decode cX10_rule 29 = .ok (.getfield 129, 3) := by decide +kernel
theorem dX10_rule_32 : decode cX10_rule 32 = .ok (.if_icmp .lt 10, 3) := by decide +kernel
theorem dX10_rule_35 : decode cX10_rule 35 = .ok (.aload_n 0, 1) := by decide +kernel
theorem dX10_rule_36 : decode cX10_rule 36 = .ok (.getfield 167, 3) := by decide +kernel
theorem dX10_rule_39 : decode cX10_rule 39 = .ok (.ifCond .ne 12, 3) := by decide +kernel
theorem dX10_rule_42 : decode cX10_rule 42 = .ok (.aload_n 0, 1) := by decide +kernel
theorem dX10_rule_43 : decode cX10_rule 43 = .ok (.iload_n 1, 1) := by decide +kernel
theorem dX10_rule_44 : decode cX10_rule 44 = .ok (.invokevirtual 177, 3) := by decide +kernel
theorem dX10_rule_47 : decode cX10_rule 47 = .ok (.istore_n 1, 1) := by decide +kernel
theorem dX10_rule_48 : decode cX10_rule 48 = .ok (.goto (-28), 3) := by decide +kernel
theorem dX10_rule_51 : decode cX10_rule 51 = .ok (.aload_n 0, 1) := by decide +kernel
theorem dX10_rule_52 : decode cX10_rule 52 = .ok (.iconst 0, 1) := by decide +kernel
theorem dX10_rule_53 : decode cX10_rule 53 = .ok (.putfield 129, 3) := by decide +kernel
theorem dX10_rule_56 : decode cX10_rule 56 = .ok (.aload_n 0, 1) := by decide +kernel
theorem dX10_rule_57 : decode cX10_rule 57 = .ok (.aload_n 0, 1) := by decide +kernel
theorem dX10_rule_58 : decode cX10_rule 58 = .ok (.getfield 156, 3) := by decide +kernel
theorem dX10_rule_61 : decode cX10_rule 61 = .ok (.ifCond .ne 7, 3) := by decide +kernel
theorem dX10_rule_64 : decode cX10_rule 64 = .ok (.iconst (-1), 1) := by decide +kernel
theorem dX10_rule_65 : decode cX10_rule 65 = .ok (.goto 7, 3) := by decide +kernel
theorem dX10_rule_68 : decode cX10_rule 68 = .ok (.aload_n 0, 1) := by decide +kernel
theorem dX10_rule_69 : decode cX10_rule 69 = .ok (.getfield 159, 3) := by decide +kernel
theorem dX10_rule_72 : decode cX10_rule 72 = .ok (.putfield 49, 3) := by decide +kernel
theorem dX10_rule_75 : decode cX10_rule 75 = .ok (.aload_n 0, 1) := by decide +kernel
theorem dX10_rule_76 : decode cX10_rule 76 = .ok (.getfield 156, 3) := by decide +kernel
theorem dX10_rule_79 : decode cX10_rule 79 = .ok (.ifCond .eq 10, 3) := by decide +kernel
theorem dX10_rule_82 : decode cX10_rule 82 = .ok (.iconst (-1), 1) := by decide +kernel
theorem dX10_rule_83 : decode cX10_rule 83 = .ok (.aload_n 0, 1) := by decide +kernel
theorem dX10_rule_84 : decode cX10_rule 84 = .ok (.getfield 156, 3) := by decide +kernel
theorem dX10_rule_87 : decode cX10_rule 87 = .ok (.isub, 1) := by decide +kernel
theorem dX10_rule_88 : decode cX10_rule 88 = .ok (.ireturn, 1) := by decide +kernel
theorem dX10_rule_89 : decode cX10_rule 89 = .ok (.aload_n 0, 1) := by decide +kernel
theorem dX10_rule_90 : decode cX10_rule 90 = .ok (.aload_n 0, 1) := by decide +kernel
theorem dX10_rule_91 : decode cX10_rule 91 = .ok (.getfield 162, 3) := by decide +kernel
theorem dX10_rule_94 : decode cX10_rule 94 = .ok (.putfield 180, 3) := by decide +kernel
theorem dX10_rule_97 : decode cX10_rule 97 = .ok (.aload_n 0, 1) := by decide +kernel
theorem dX10_rule_98 : decode cX10_rule 98 = .ok (.aload_n 0, 1) := by decide +kernel
theorem dX10_rule_99 : decode cX10_rule 99 = .ok (.getfield 167, 3) := by decide +kernel
theorem dX10_rule_102 : decode cX10_rule 102 = .ok (.putfield 183, 3) := by decide +kernel
theorem dX10_rule_105 : decode cX10_rule 105 = .ok (.iconst 0, 1) := by decide +kernel
theorem dX10_rule_106 : decode cX10_rule 106 = .ok (.istore_n 2, 1) := by decide +kernel
theorem dX10_rule_107 : decode cX10_rule 107 = .ok (.iload_n 2, 1) := by decide +kernel
theorem dX10_rule_108 : decode cX10_rule 108 = .ok (.bipush 12, 2) := by decide +kernel
theorem dX10_rule_110 : decode cX10_rule 110 = .ok (.if_icmp .ge 45, 3) := by decide +kernel
theorem dX10_rule_113 : decode cX10_rule 113 = .ok (.aload_n 0, 1) := by decide +kernel
theorem dX10_rule_114 : decode cX10_rule 114 = .ok (.getfield 31, 3) := by decide +kernel
theorem dX10_rule_117 : decode cX10_rule 117 = .ok (.iload_n 2, 1) := by decide +kernel
theorem dX10_rule_118 : decode cX10_rule 118 = .ok (.aload_n 0, 1) := by decide +kernel
theorem dX10_rule_119 : decode cX10_rule 119 = .ok (.getfield 40, 3) := by decide +kernel
theorem dX10_rule_122 : decode cX10_rule 122 = .ok (.iload_n 2, 1) := by decide +kernel
theorem dX10_rule_123 : decode cX10_rule 123 = .ok (.iaload, 1) := by decide +kernel
theorem dX10_rule_124 : decode cX10_rule 124 = .ok (.iastore, 1) := by decide +kernel
theorem dX10_rule_125 : decode cX10_rule 125 = .ok (.aload_n 0, 1) := by decide +kernel
theorem dX10_rule_126 : decode cX10_rule 126 = .ok (.getfield 34, 3) := by decide +kernel
theorem dX10_rule_129 : decode cX10_rule 129 = .ok (.iload_n 2, 1) := by decide +kernel
theorem dX10_rule_130 : decode cX10_rule 130 = .ok (.aload_n 0, 1) := by decide +kernel
theorem dX10_rule_131 : decode cX10_rule 131 = .ok (.getfield 43, 3) := by decide +kernel
theorem dX10_rule_134 : decode cX10_rule 134 = .ok (.iload_n 2, 1) := by decide +kernel
theorem dX10_rule_135 : decode cX10_rule 135 = .ok (.iaload, 1) := by decide +kernel
theorem dX10_rule_136 : decode cX10_rule 136 = .ok (.iastore, 1) := by decide +kernel
theorem dX10_rule_137 : decode cX10_rule 137 = .ok (.aload_n 0, 1) := by decide +kernel
theorem dX10_rule_138 : decode cX10_rule 138 = .ok (.getfield 37, 3) := by decide +kernel
theorem dX10_rule_141 : decode cX10_rule 141 = .ok (.iload_n 2, 1) := by decide +kernel
theorem dX10_rule_142 : decode cX10_rule 142 = .ok (.aload_n 0, 1) := by decide +kernel
theorem dX10_rule_143 : decode cX10_rule 143 = .ok (.getfield 46, 3) := by decide +kernel
theorem dX10_rule_146 : decode cX10_rule 146 = .ok (.iload_n 2, 1) := by decide +kernel
theorem dX10_rule_147 : decode cX10_rule 147 = .ok (.iaload, 1) := by decide +kernel
theorem dX10_rule_148 : decode cX10_rule 148 = .ok (.iastore, 1) := by decide +kernel
theorem dX10_rule_149 : decode cX10_rule 149 = .ok (.iinc 2 1, 3) := by decide +kernel
theorem dX10_rule_152 : decode cX10_rule 152 = .ok (.goto (-45), 3) := by decide +kernel
theorem dX10_rule_155 : decode cX10_rule 155 = .ok (.aload_n 0, 1) := by decide +kernel
theorem dX10_rule_156 : decode cX10_rule 156 = .ok (.getfield 180, 3) := by decide +kernel
theorem dX10_rule_159 : decode cX10_rule 159 = .ok (.ireturn, 1) := by decide +kernel
theorem dX10_place_0 : decode cX10_place 0 = .ok (.aload_n 0, 1) := by decide +kernel
theorem dX10_place_1 : decode cX10_place 1 = .ok (.iconst 0, 1) := by decide +kernel
theorem dX10_place_2 : decode cX10_place 2 = .ok (.putfield 1, 3) := by decide +kernel
theorem dX10_place_5 : decode cX10_place 5 = .ok (.aload_n 0, 1) := by decide +kernel
theorem dX10_place_6 : decode cX10_place 6 = .ok (.getfield 49, 3) := by decide +kernel
theorem dX10_place_9 : decode cX10_place 9 = .ok (.ireturn, 1) := by decide +kernel
set_option maxRecDepth 20000 in
theorem ggX10_goes_X10_takes_ : GoodIn wsX10_goes wsX10_takes_ := goodIn_r _ [13, 14, 15, 16, 17, 9, 0, 1, 2, 3, 4, 5, 6, 7, 8, 10, 11, 12, 18, 19, 20, 21, 22, 23, 24, 25, 26, 27, 28, 29, 30, 31, 32, 33, 34, 35, 36, 37, 38, 39, 40, 41, 42, 43, 44, 45, 46, 47, 48, 49, 50, 51, 52, 53, 54, 55, 56, 57, 58, 59, 60, 61] (by decide +kernel) (by decide +kernel)
set_option maxRecDepth 20000 in
theorem gX10_goes_X10_takes_ : GoodIn wsX10_goes (wsV RX10 186 RX10 yX10_takes_ wsX10_takes_) := goodIn_app (goodIn_of _ (by decide +kernel)) ggX10_goes_X10_takes_
set_option maxRecDepth 20000 in
theorem ggX10_goes_X10_isFigure : GoodIn wsX10_goes wsX10_isFigure := goodIn_r _ [12] (by decide +kernel) (by decide +kernel)
set_option maxRecDepth 20000 in
theorem gX10_goes_X10_isFigure : GoodIn wsX10_goes (va_wsS RX10 132 yX10_isFigure wsX10_isFigure) := goodIn_app (goodIn_of _ (by decide +kernel)) ggX10_goes_X10_isFigure
theorem dX10_goes_0 : decode cX10_goes 0 = .ok (.iload_n 2, 1) := by decide +kernel
theorem dX10_goes_1 : decode cX10_goes 1 = .ok (.aload_n 0, 1) := by decide +kernel
theorem dX10_goes_2 : decode cX10_goes 2 = .ok (.getfield 180, 3) := by decide +kernel
theorem dX10_goes_5 : decode cX10_goes 5 = .ok (.if_icmp .ne 19, 3) := by decide +kernel
theorem dX10_goes_8 : decode cX10_goes 8 = .ok (.iload_n 3, 1) := by decide +kernel
theorem dX10_goes_9 : decode cX10_goes 9 = .ok (.aload_n 0, 1) := by decide +kernel
theorem dX10_goes_10 : decode cX10_goes 10 = .ok (.getfield 17, 3) := by decide +kernel
theorem dX10_goes_13 : decode cX10_goes 13 = .ok (.iload_n 1, 1) := by decide +kernel
theorem dX10_goes_14 : decode cX10_goes 14 = .ok (.iaload, 1) := by decide +kernel
theorem dX10_goes_15 : decode cX10_goes 15 = .ok (.if_icmp .ne 7, 3) := by decide +kernel
theorem dX10_goes_18 : decode cX10_goes 18 = .ok (.iconst 1, 1) := by decide +kernel
theorem dX10_goes_19 : decode cX10_goes 19 = .ok (.goto 4, 3) := by decide +kernel
theorem dX10_goes_22 : decode cX10_goes 22 = .ok (.iconst 0, 1) := by decide +kernel
theorem dX10_goes_23 : decode cX10_goes 23 = .ok (.ireturn, 1) := by decide +kernel
theorem dX10_goes_24 : decode cX10_goes 24 = .ok (.aload_n 0, 1) := by decide +kernel
theorem dX10_goes_25 : decode cX10_goes 25 = .ok (.getfield 55, 3) := by decide +kernel
theorem dX10_goes_28 : decode cX10_goes 28 = .ok (.bipush 13, 2) := by decide +kernel
theorem dX10_goes_30 : decode cX10_goes 30 = .ok (.iload_n 2, 1) := by decide +kernel
theorem dX10_goes_31 : decode cX10_goes 31 = .ok (.imul, 1) := by decide +kernel
theorem dX10_goes_32 : decode cX10_goes 32 = .ok (.iload_n 3, 1) := by decide +kernel
theorem dX10_goes_33 : decode cX10_goes 33 = .ok (.iadd, 1) := by decide +kernel
theorem dX10_goes_34 : decode cX10_goes 34 = .ok (.baload, 1) := by decide +kernel
theorem dX10_goes_35 : decode cX10_goes 35 = .ok (.ifCond .eq 5, 3) := by decide +kernel
theorem dX10_goes_38 : decode cX10_goes 38 = .ok (.iconst 0, 1) := by decide +kernel
theorem dX10_goes_39 : decode cX10_goes 39 = .ok (.ireturn, 1) := by decide +kernel
theorem dX10_goes_40 : decode cX10_goes 40 = .ok (.aload_n 0, 1) := by decide +kernel
theorem dX10_goes_41 : decode cX10_goes 41 = .ok (.getfield 17, 3) := by decide +kernel
theorem dX10_goes_44 : decode cX10_goes 44 = .ok (.iload_n 1, 1) := by decide +kernel
theorem dX10_goes_45 : decode cX10_goes 45 = .ok (.iaload, 1) := by decide +kernel
theorem dX10_goes_46 : decode cX10_goes 46 = .ok (.iload_n 3, 1) := by decide +kernel
theorem dX10_goes_47 : decode cX10_goes 47 = .ok (.isub, 1) := by decide +kernel
theorem dX10_goes_48 : decode cX10_goes 48 = .ok (.istore 4, 2) := by decide +kernel
theorem dX10_goes_50 : decode cX10_goes 50 = .ok (.aload_n 0, 1) := by decide +kernel
theorem dX10_goes_51 : decode cX10_goes 51 = .ok (.getfield 31, 3) := by decide +kernel
theorem dX10_goes_54 : decode cX10_goes 54 = .ok (.iload_n 2, 1) := by decide +kernel
theorem dX10_goes_55 : decode cX10_goes 55 = .ok (.iaload, 1) := by decide +kernel
theorem dX10_goes_56 : decode cX10_goes 56 = .ok (.istore 5, 2) := by decide +kernel
theorem dX10_goes_58 : decode cX10_goes 58 = .ok (.iload 5, 2) := by decide +kernel
theorem dX10_goes_60 : decode cX10_goes 60 = .ok (.bipush 42, 2) := by decide +kernel
theorem dX10_goes_62 : decode cX10_goes 62 = .ok (.if_icmp .ne 36, 3) := by decide +kernel
theorem dX10_goes_65 : decode cX10_goes 65 = .ok (.iconst 0, 1) := by decide +kernel
theorem dX10_goes_66 : decode cX10_goes 66 = .ok (.istore 6, 2) := by decide +kernel
theorem dX10_goes_68 : decode cX10_goes 68 = .ok (.iload 6, 2) := by decide +kernel
theorem dX10_goes_70 : decode cX10_goes 70 = .ok (.iload 4, 2) := by decide +kernel
theorem dX10_goes_72 : decode cX10_goes 72 = .ok (.if_icmp .gt 23, 3) := by decide +kernel
theorem dX10_goes_75 : decode cX10_goes 75 = .ok (.aload_n 0, 1) := by decide +kernel
theorem dX10_goes_76 : decode cX10_goes 76 = .ok (.iload_n 1, 1) := by decide +kernel
theorem dX10_goes_77 : decode cX10_goes 77 = .ok (.iload_n 2, 1) := by decide +kernel
theorem dX10_goes_78 : decode cX10_goes 78 = .ok (.iload_n 3, 1) := by decide +kernel
theorem dX10_goes_79 : decode cX10_goes 79 = .ok (.iload 6, 2) := by decide +kernel
theorem dX10_goes_81 : decode cX10_goes 81 = .ok (.invokevirtual 186, 3) := by decide +kernel
theorem dX10_goes_84 : decode cX10_goes 84 = .ok (.ifCond .eq 5, 3) := by decide +kernel
theorem dX10_goes_87 : decode cX10_goes 87 = .ok (.iconst 1, 1) := by decide +kernel
theorem dX10_goes_88 : decode cX10_goes 88 = .ok (.ireturn, 1) := by decide +kernel
theorem dX10_goes_89 : decode cX10_goes 89 = .ok (.iinc 6 1, 3) := by decide +kernel
theorem dX10_goes_92 : decode cX10_goes 92 = .ok (.goto (-24), 3) := by decide +kernel
theorem dX10_goes_95 : decode cX10_goes 95 = .ok (.goto 120, 3) := by decide +kernel
theorem dX10_goes_98 : decode cX10_goes 98 = .ok (.iload 5, 2) := by decide +kernel
theorem dX10_goes_100 : decode cX10_goes 100 = .ok (.bipush 35, 2) := by decide +kernel
theorem dX10_goes_102 : decode cX10_goes 102 = .ok (.if_icmp .ne 72, 3) := by decide +kernel
theorem dX10_goes_105 : decode cX10_goes 105 = .ok (.iconst 0, 1) := by decide +kernel
theorem dX10_goes_106 : decode cX10_goes 106 = .ok (.istore 6, 2) := by decide +kernel
theorem dX10_goes_108 : decode cX10_goes 108 = .ok (.iload 6, 2) := by decide +kernel
theorem dX10_goes_110 : decode cX10_goes 110 = .ok (.iload 4, 2) := by decide +kernel
theorem dX10_goes_112 : decode cX10_goes 112 = .ok (.if_icmp .ge 29, 3) := by decide +kernel
theorem dX10_goes_115 : decode cX10_goes 115 = .ok (.aload_n 0, 1) := by decide +kernel
theorem dX10_goes_116 : decode cX10_goes 116 = .ok (.getfield 13, 3) := by decide +kernel
theorem dX10_goes_119 : decode cX10_goes 119 = .ok (.bipush 12, 2) := by decide +kernel
theorem dX10_goes_121 : decode cX10_goes 121 = .ok (.iload_n 1, 1) := by decide +kernel
theorem dX10_goes_122 : decode cX10_goes 122 = .ok (.imul, 1) := by decide +kernel
theorem dX10_goes_123 : decode cX10_goes 123 = .ok (.iload_n 3, 1) := by decide +kernel
theorem dX10_goes_124 : decode cX10_goes 124 = .ok (.iadd, 1) := by decide +kernel
theorem dX10_goes_125 : decode cX10_goes 125 = .ok (.iload 6, 2) := by decide +kernel
theorem dX10_goes_127 : decode cX10_goes 127 = .ok (.iadd, 1) := by decide +kernel
theorem dX10_goes_128 : decode cX10_goes 128 = .ok (.baload, 1) := by decide +kernel
theorem dX10_goes_129 : decode cX10_goes 129 = .ok (.invokestatic 132, 3) := by decide +kernel
theorem dX10_goes_132 : decode cX10_goes 132 = .ok (.ifCond .eq 9, 3) := by decide +kernel
theorem dX10_goes_135 : decode cX10_goes 135 = .ok (.iinc 6 1, 3) := by decide +kernel
theorem dX10_goes_138 : decode cX10_goes 138 = .ok (.goto (-30), 3) := by decide +kernel
theorem dX10_goes_141 : decode cX10_goes 141 = .ok (.iload 6, 2) := by decide +kernel
theorem dX10_goes_143 : decode cX10_goes 143 = .ok (.istore 7, 2) := by decide +kernel
theorem dX10_goes_145 : decode cX10_goes 145 = .ok (.iload 7, 2) := by decide +kernel
theorem dX10_goes_147 : decode cX10_goes 147 = .ok (.iconst 1, 1) := by decide +kernel
theorem dX10_goes_148 : decode cX10_goes 148 = .ok (.if_icmp .lt 23, 3) := by decide +kernel
theorem dX10_goes_151 : decode cX10_goes 151 = .ok (.aload_n 0, 1) := by decide +kernel
theorem dX10_goes_152 : decode cX10_goes 152 = .ok (.iload_n 1, 1) := by decide +kernel
theorem dX10_goes_153 : decode cX10_goes 153 = .ok (.iload_n 2, 1) := by decide +kernel
theorem dX10_goes_154 : decode cX10_goes 154 = .ok (.iload_n 3, 1) := by decide +kernel
theorem dX10_goes_155 : decode cX10_goes 155 = .ok (.iload 7, 2) := by decide +kernel
theorem dX10_goes_157 : decode cX10_goes 157 = .ok (.invokevirtual 186, 3) := by decide +kernel
theorem dX10_goes_160 : decode cX10_goes 160 = .ok (.ifCond .eq 5, 3) := by decide +kernel
theorem dX10_goes_163 : decode cX10_goes 163 = .ok (.iconst 1, 1) := by decide +kernel
theorem dX10_goes_164 : decode cX10_goes 164 = .ok (.ireturn, 1) := by decide +kernel
theorem dX10_goes_165 : decode cX10_goes 165 = .ok (.iinc 7 (-1), 3) := by decide +kernel
theorem dX10_goes_168 : decode cX10_goes 168 = .ok (.goto (-23), 3) := by decide +kernel
theorem dX10_goes_171 : decode cX10_goes 171 = .ok (.goto 44, 3) := by decide +kernel
theorem dX10_goes_174 : decode cX10_goes 174 = .ok (.iload 4, 2) := by decide +kernel
theorem dX10_goes_176 : decode cX10_goes 176 = .ok (.ifCond .le 39, 3) := by decide +kernel
theorem dX10_goes_179 : decode cX10_goes 179 = .ok (.iload 5, 2) := by decide +kernel
theorem dX10_goes_181 : decode cX10_goes 181 = .ok (.bipush 63, 2) := by decide +kernel
theorem dX10_goes_183 : decode cX10_goes 183 = .ok (.if_icmp .eq 19, 3) := by decide +kernel
theorem dX10_goes_186 : decode cX10_goes 186 = .ok (.aload_n 0, 1) := by decide +kernel
theorem dX10_goes_187 : decode cX10_goes 187 = .ok (.getfield 13, 3) := by decide +kernel
theorem dX10_goes_190 : decode cX10_goes 190 = .ok (.bipush 12, 2) := by decide +kernel
theorem dX10_goes_192 : decode cX10_goes 192 = .ok (.iload_n 1, 1) := by decide +kernel
theorem dX10_goes_193 : decode cX10_goes 193 = .ok (.imul, 1) := by decide +kernel
theorem dX10_goes_194 : decode cX10_goes 194 = .ok (.iload_n 3, 1) := by decide +kernel
theorem dX10_goes_195 : decode cX10_goes 195 = .ok (.iadd, 1) := by decide +kernel
theorem dX10_goes_196 : decode cX10_goes 196 = .ok (.baload, 1) := by decide +kernel
theorem dX10_goes_197 : decode cX10_goes 197 = .ok (.iload 5, 2) := by decide +kernel
theorem dX10_goes_199 : decode cX10_goes 199 = .ok (.if_icmp .ne 16, 3) := by decide +kernel
theorem dX10_goes_202 : decode cX10_goes 202 = .ok (.aload_n 0, 1) := by decide +kernel
theorem dX10_goes_203 : decode cX10_goes 203 = .ok (.iload_n 1, 1) := by decide +kernel
theorem dX10_goes_204 : decode cX10_goes 204 = .ok (.iload_n 2, 1) := by decide +kernel
theorem dX10_goes_205 : decode cX10_goes 205 = .ok (.iload_n 3, 1) := by decide +kernel
theorem dX10_goes_206 : decode cX10_goes 206 = .ok (.iconst 1, 1) := by decide +kernel
theorem dX10_goes_207 : decode cX10_goes 207 = .ok (.invokevirtual 186, 3) := by decide +kernel
theorem dX10_goes_210 : decode cX10_goes 210 = .ok (.ifCond .eq 5, 3) := by decide +kernel
theorem dX10_goes_213 : decode cX10_goes 213 = .ok (.iconst 1, 1) := by decide +kernel
theorem dX10_goes_214 : decode cX10_goes 214 = .ok (.ireturn, 1) := by decide +kernel
theorem dX10_goes_215 : decode cX10_goes 215 = .ok (.aload_n 0, 1) := by decide +kernel
theorem dX10_goes_216 : decode cX10_goes 216 = .ok (.getfield 55, 3) := by decide +kernel
theorem dX10_goes_219 : decode cX10_goes 219 = .ok (.bipush 13, 2) := by decide +kernel
theorem dX10_goes_221 : decode cX10_goes 221 = .ok (.iload_n 2, 1) := by decide +kernel
theorem dX10_goes_222 : decode cX10_goes 222 = .ok (.imul, 1) := by decide +kernel
theorem dX10_goes_223 : decode cX10_goes 223 = .ok (.iload_n 3, 1) := by decide +kernel
theorem dX10_goes_224 : decode cX10_goes 224 = .ok (.iadd, 1) := by decide +kernel
theorem dX10_goes_225 : decode cX10_goes 225 = .ok (.iconst 1, 1) := by decide +kernel
theorem dX10_goes_226 : decode cX10_goes 226 = .ok (.bastore, 1) := by decide +kernel
theorem dX10_goes_227 : decode cX10_goes 227 = .ok (.iconst 0, 1) := by decide +kernel
theorem dX10_goes_228 : decode cX10_goes 228 = .ok (.ireturn, 1) := by decide +kernel
set_option maxRecDepth 20000 in
theorem ggX10_takes__X10_goes : GoodIn wsX10_takes_ wsX10_goes := goodIn_r _ [6, 7, 8, 9, 10, 11, 12, 13, 14, 5, 15, 16, 17, 0, 1, 2, 3, 4, 18, 19, 20, 21, 22, 23, 24, 25, 26, 27, 28, 29, 30, 31, 32, 33, 34, 35, 36, 37, 38, 39, 40, 41, 42, 43, 44, 45, 46, 47, 48, 49, 50, 51, 52, 53, 54, 55, 56, 57, 58, 59, 60, 61] (by decide +kernel) (by decide +kernel)
set_option maxRecDepth 20000 in
theorem gX10_takes__X10_goes : GoodIn wsX10_takes_ (wsV RX10 189 RX10 yX10_goes wsX10_goes) := goodIn_app (goodIn_of _ (by decide +kernel)) ggX10_takes__X10_goes
theorem dX10_takes__0 : decode cX10_takes_ 0 = .ok (.aload_n 0, 1) := by decide +kernel
theorem dX10_takes__1 : decode cX10_takes_ 1 = .ok (.getfield 52, 3) := by decide +kernel
theorem dX10_takes__4 : decode cX10_takes_ 4 = .ok (.iload_n 2, 1) := by decide +kernel
theorem dX10_takes__5 : decode cX10_takes_ 5 = .ok (.iload 4, 2) := by decide +kernel
theorem dX10_takes__7 : decode cX10_takes_ 7 = .ok (.iastore, 1) := by decide +kernel
theorem dX10_takes__8 : decode cX10_takes_ 8 = .ok (.aload_n 0, 1) := by decide +kernel
theorem dX10_takes__9 : decode cX10_takes_ 9 = .ok (.iload_n 1, 1) := by decide +kernel
theorem dX10_takes__10 : decode cX10_takes_ 10 = .ok (.iload_n 2, 1) := by decide +kernel
theorem dX10_takes__11 : decode cX10_takes_ 11 = .ok (.iconst 1, 1) := by decide +kernel
theorem dX10_takes__12 : decode cX10_takes_ 12 = .ok (.iadd, 1) := by decide +kernel
theorem dX10_takes__13 : decode cX10_takes_ 13 = .ok (.iload_n 3, 1) := by decide +kernel
theorem dX10_takes__14 : decode cX10_takes_ 14 = .ok (.iload 4, 2) := by decide +kernel
theorem dX10_takes__16 : decode cX10_takes_ 16 = .ok (.iadd, 1) := by decide +kernel
theorem dX10_takes__17 : decode cX10_takes_ 17 = .ok (.invokevirtual 189, 3) := by decide +kernel
theorem dX10_takes__20 : decode cX10_takes_ 20 = .ok (.ifCond .ne 5, 3) := by decide +kernel
theorem dX10_takes__23 : decode cX10_takes_ 23 = .ok (.iconst 0, 1) := by decide +kernel
theorem dX10_takes__24 : decode cX10_takes_ 24 = .ok (.ireturn, 1) := by decide +kernel
theorem dX10_takes__25 : decode cX10_takes_ 25 = .ok (.aload_n 0, 1) := by decide +kernel
theorem dX10_takes__26 : decode cX10_takes_ 26 = .ok (.getfield 52, 3) := by decide +kernel
theorem dX10_takes__29 : decode cX10_takes_ 29 = .ok (.iload_n 2, 1) := by decide +kernel
theorem dX10_takes__30 : decode cX10_takes_ 30 = .ok (.iload 4, 2) := by decide +kernel
theorem dX10_takes__32 : decode cX10_takes_ 32 = .ok (.iastore, 1) := by decide +kernel
theorem dX10_takes__33 : decode cX10_takes_ 33 = .ok (.iconst 1, 1) := by decide +kernel
theorem dX10_takes__34 : decode cX10_takes_ 34 = .ok (.ireturn, 1) := by decide +kernel
set_option maxRecDepth 20000 in
theorem ggX10_isFit_X10_goes : GoodIn wsX10_isFit wsX10_goes := goodIn_r _ [6, 7, 8, 1, 9, 10, 11, 12, 13, 5, 14, 15, 16, 17, 18, 2, 3, 4, 19, 20, 21, 22, 23, 24, 25, 26, 27, 28, 29, 30, 31, 32, 33, 34, 35, 36, 37, 38, 39, 40, 41, 42, 43, 44, 45, 46, 47, 48, 49, 50, 51, 52, 53, 54, 55, 56, 57, 58, 59, 60, 61, 62] (by decide +kernel) (by decide +kernel)
set_option maxRecDepth 20000 in
theorem gX10_isFit_X10_goes : GoodIn wsX10_isFit (wsV RX10 189 RX10 yX10_goes wsX10_goes) := goodIn_app (goodIn_of _ (by decide +kernel)) ggX10_isFit_X10_goes
theorem dX10_isFit_0 : decode cX10_isFit 0 = .ok (.iconst 0, 1) := by decide +kernel
theorem dX10_isFit_1 : decode cX10_isFit 1 = .ok (.istore_n 2, 1) := by decide +kernel
theorem dX10_isFit_2 : decode cX10_isFit 2 = .ok (.iload_n 2, 1) := by decide +kernel
theorem dX10_isFit_3 : decode cX10_isFit 3 = .ok (.sipush 169, 3) := by decide +kernel
theorem dX10_isFit_6 : decode cX10_isFit 6 = .ok (.if_icmp .ge 16, 3) := by decide +kernel
theorem dX10_isFit_9 : decode cX10_isFit 9 = .ok (.aload_n 0, 1) := by decide +kernel
theorem dX10_isFit_10 : decode cX10_isFit 10 = .ok (.getfield 55, 3) := by decide +kernel
theorem dX10_isFit_13 : decode cX10_isFit 13 = .ok (.iload_n 2, 1) := by decide +kernel
theorem dX10_isFit_14 : decode cX10_isFit 14 = .ok (.iconst 0, 1) := by decide +kernel
theorem dX10_isFit_15 : decode cX10_isFit 15 = .ok (.bastore, 1) := by decide +kernel
theorem dX10_isFit_16 : decode cX10_isFit 16 = .ok (.iinc 2 1, 3) := by decide +kernel
theorem dX10_isFit_19 : decode cX10_isFit 19 = .ok (.goto (-17), 3) := by decide +kernel
theorem dX10_isFit_22 : decode cX10_isFit 22 = .ok (.aload_n 0, 1) := by decide +kernel
theorem dX10_isFit_23 : decode cX10_isFit 23 = .ok (.iload_n 1, 1) := by decide +kernel
theorem dX10_isFit_24 : decode cX10_isFit 24 = .ok (.iconst 0, 1) := by decide +kernel
theorem dX10_isFit_25 : decode cX10_isFit 25 = .ok (.iconst 0, 1) := by decide +kernel
theorem dX10_isFit_26 : decode cX10_isFit 26 = .ok (.invokevirtual 189, 3) := by decide +kernel
theorem dX10_isFit_29 : decode cX10_isFit 29 = .ok (.ireturn, 1) := by decide +kernel
theorem dX10_firstOf_0 : decode cX10_firstOf 0 = .ok (.iconst 0, 1) := by decide +kernel
theorem dX10_firstOf_1 : decode cX10_firstOf 1 = .ok (.istore_n 2, 1) := by decide +kernel
theorem dX10_firstOf_2 : decode cX10_firstOf 2 = .ok (.iconst 0, 1) := by decide +kernel
theorem dX10_firstOf_3 : decode cX10_firstOf 3 = .ok (.istore_n 3, 1) := by decide +kernel
theorem dX10_firstOf_4 : decode cX10_firstOf 4 = .ok (.iload_n 3, 1) := by decide +kernel
theorem dX10_firstOf_5 : decode cX10_firstOf 5 = .ok (.iload_n 1, 1) := by decide +kernel
theorem dX10_firstOf_6 : decode cX10_firstOf 6 = .ok (.if_icmp .ge 18, 3) := by decide +kernel
theorem dX10_firstOf_9 : decode cX10_firstOf 9 = .ok (.iload_n 2, 1) := by decide +kernel
theorem dX10_firstOf_10 : decode cX10_firstOf 10 = .ok (.aload_n 0, 1) := by decide +kernel
theorem dX10_firstOf_11 : decode cX10_firstOf 11 = .ok (.getfield 52, 3) := by decide +kernel
theorem dX10_firstOf_14 : decode cX10_firstOf 14 = .ok (.iload_n 3, 1) := by decide +kernel
theorem dX10_firstOf_15 : decode cX10_firstOf 15 = .ok (.iaload, 1) := by decide +kernel
theorem dX10_firstOf_16 : decode cX10_firstOf 16 = .ok (.iadd, 1) := by decide +kernel
theorem dX10_firstOf_17 : decode cX10_firstOf 17 = .ok (.istore_n 2, 1) := by decide +kernel
theorem dX10_firstOf_18 : decode cX10_firstOf 18 = .ok (.iinc 3 1, 3) := by decide +kernel
theorem dX10_firstOf_21 : decode cX10_firstOf 21 = .ok (.goto (-17), 3) := by decide +kernel
theorem dX10_firstOf_24 : decode cX10_firstOf 24 = .ok (.iload_n 2, 1) := by decide +kernel
theorem dX10_firstOf_25 : decode cX10_firstOf 25 = .ok (.ireturn, 1) := by decide +kernel
set_option maxRecDepth 20000 in
theorem ggX10_fits_X10_isFile : GoodIn wsX10_fits wsX10_isFile := goodIn_r _ [8, 9, 10, 34, 35, 36, 37, 38, 39, 40, 41, 42, 43, 44, 45, 46, 47, 48, 49, 50, 51, 52, 53, 54, 55, 56, 57, 58, 59, 60, 61, 62, 63, 64, 65, 66, 67, 68, 69, 70, 71, 72, 73, 74, 75, 76, 77] (by decide +kernel) (by decide +kernel)
set_option maxRecDepth 20000 in
theorem gX10_fits_X10_isFile : GoodIn wsX10_fits (wsV RX10 150 RX10 yX10_isFile wsX10_isFile) := goodIn_app (goodIn_of _ (by decide +kernel)) ggX10_fits_X10_isFile
set_option maxRecDepth 20000 in
theorem ggX10_fits_X10_isFit : GoodIn wsX10_fits wsX10_isFit := goodIn_r _ [14, 15, 16, 17, 18, 7, 19, 2, 20, 21, 22, 23, 24, 25, 26, 27, 28, 29, 3, 34, 35, 36, 37, 38, 39, 40, 41, 42, 43, 44, 45, 46, 47, 48, 49, 50, 51, 52, 53, 54, 55, 56, 57, 58, 59, 60, 61, 62, 63, 64, 65, 66, 67, 68, 69, 70, 71, 72, 73, 74, 75, 76, 77] (by decide +kernel) (by decide +kernel)
set_option maxRecDepth 20000 in
theorem gX10_fits_X10_isFit : GoodIn wsX10_fits (wsV RX10 192 RX10 yX10_isFit wsX10_isFit) := goodIn_app (goodIn_of _ (by decide +kernel)) ggX10_fits_X10_isFit
set_option maxRecDepth 20000 in
theorem ggX10_fits_X10_firstOf : GoodIn wsX10_fits wsX10_firstOf := goodIn_r _ [33, 3, 34, 35, 36, 37, 38, 39, 40, 41, 42, 43, 44, 45, 46, 47, 48, 49, 50, 51, 52, 53, 54, 55, 56, 57, 58, 59, 60, 61, 62, 63, 64, 65, 66, 67, 68, 69, 70, 71, 72, 73, 74, 75, 76, 77] (by decide +kernel) (by decide +kernel)
set_option maxRecDepth 20000 in
theorem gX10_fits_X10_firstOf : GoodIn wsX10_fits (wsV RX10 195 RX10 yX10_firstOf wsX10_firstOf) := goodIn_app (goodIn_of _ (by decide +kernel)) ggX10_fits_X10_firstOf
theorem dX10_fits_0 : decode cX10_fits 0 = .ok (.aload_n 0, 1) := by decide +kernel
theorem dX10_fits_1 : decode cX10_fits 1 = .ok (.iconst 0, 1) := by decide +kernel
theorem dX10_fits_2 : decode cX10_fits 2 = .ok (.putfield 1, 3) := by decide +kernel
theorem dX10_fits_5 : decode cX10_fits 5 = .ok (.aload_n 0, 1) := by decide +kernel
theorem dX10_fits_6 : decode cX10_fits 6 = .ok (.iload_n 1, 1) := by decide +kernel
theorem dX10_fits_7 : decode cX10_fits 7 = .ok (.invokevirtual 150, 3) := by decide +kernel
theorem dX10_fits_10 : decode cX10_fits 10 = .ok (.ifCond .eq 10, 3) := by decide +kernel
theorem dX10_fits_13 : decode cX10_fits 13 = .ok (.aload_n 0, 1) := by decide +kernel
theorem dX10_fits_14 : decode cX10_fits 14 = .ok (.getfield 180, 3) := by decide +kernel
theorem dX10_fits_17 : decode cX10_fits 17 = .ok (.ifCond .ne 5, 3) := by decide +kernel
theorem dX10_fits_20 : decode cX10_fits 20 = .ok (.iconst (-1), 1) := by decide +kernel
theorem dX10_fits_21 : decode cX10_fits 21 = .ok (.ireturn, 1) := by decide +kernel
theorem dX10_fits_22 : decode cX10_fits 22 = .ok (.aload_n 0, 1) := by decide +kernel
theorem dX10_fits_23 : decode cX10_fits 23 = .ok (.iload_n 1, 1) := by decide +kernel
theorem dX10_fits_24 : decode cX10_fits 24 = .ok (.invokevirtual 192, 3) := by decide +kernel
theorem dX10_fits_27 : decode cX10_fits 27 = .ok (.istore_n 3, 1) := by decide +kernel
theorem dX10_fits_28 : decode cX10_fits 28 = .ok (.iload_n 2, 1) := by decide +kernel
theorem dX10_fits_29 : decode cX10_fits 29 = .ok (.ifCond .ne 13, 3) := by decide +kernel
theorem dX10_fits_32 : decode cX10_fits 32 = .ok (.iload_n 3, 1) := by decide +kernel
theorem dX10_fits_33 : decode cX10_fits 33 = .ok (.ifCond .eq 7, 3) := by decide +kernel
theorem dX10_fits_36 : decode cX10_fits 36 = .ok (.iconst 1, 1) := by decide +kernel
theorem dX10_fits_37 : decode cX10_fits 37 = .ok (.goto 4, 3) := by decide +kernel
theorem dX10_fits_40 : decode cX10_fits 40 = .ok (.iconst 0, 1) := by decide +kernel
theorem dX10_fits_41 : decode cX10_fits 41 = .ok (.ireturn, 1) := by decide +kernel
theorem dX10_fits_42 : decode cX10_fits 42 = .ok (.iload_n 3, 1) := by decide +kernel
theorem dX10_fits_43 : decode cX10_fits 43 = .ok (.ifCond .ne 5, 3) := by decide +kernel
theorem dX10_fits_46 : decode cX10_fits 46 = .ok (.iconst (-1), 1) := by decide +kernel
theorem dX10_fits_47 : decode cX10_fits 47 = .ok (.ireturn, 1) := by decide +kernel
theorem dX10_fits_48 : decode cX10_fits 48 = .ok (.iload_n 2, 1) := by decide +kernel
theorem dX10_fits_49 : decode cX10_fits 49 = .ok (.bipush 10, 2) := by decide +kernel
theorem dX10_fits_51 : decode cX10_fits 51 = .ok (.if_icmp .lt 24, 3) := by decide +kernel
theorem dX10_fits_54 : decode cX10_fits 54 = .ok (.iload_n 2, 1) := by decide +kernel
theorem dX10_fits_55 : decode cX10_fits 55 = .ok (.bipush 10, 2) := by decide +kernel
theorem dX10_fits_57 : decode cX10_fits 57 = .ok (.aload_n 0, 1) := by decide +kernel
theorem dX10_fits_58 : decode cX10_fits 58 = .ok (.getfield 180, 3) := by decide +kernel
theorem dX10_fits_61 : decode cX10_fits 61 = .ok (.iadd, 1) := by decide +kernel
theorem dX10_fits_62 : decode cX10_fits 62 = .ok (.if_icmp .ge 13, 3) := by decide +kernel
theorem dX10_fits_65 : decode cX10_fits 65 = .ok (.aload_n 0, 1) := by decide +kernel
theorem dX10_fits_66 : decode cX10_fits 66 = .ok (.getfield 52, 3) := by decide +kernel
theorem dX10_fits_69 : decode cX10_fits 69 = .ok (.iload_n 2, 1) := by decide +kernel
theorem dX10_fits_70 : decode cX10_fits 70 = .ok (.bipush 10, 2) := by decide +kernel
theorem dX10_fits_72 : decode cX10_fits 72 = .ok (.isub, 1) := by decide +kernel
theorem dX10_fits_73 : decode cX10_fits 73 = .ok (.iaload, 1) := by decide +kernel
theorem dX10_fits_74 : decode cX10_fits 74 = .ok (.ireturn, 1) := by decide +kernel
theorem dX10_fits_75 : decode cX10_fits 75 = .ok (.iload_n 2, 1) := by decide +kernel
theorem dX10_fits_76 : decode cX10_fits 76 = .ok (.bipush 30, 2) := by decide +kernel
theorem dX10_fits_78 : decode cX10_fits 78 = .ok (.if_icmp .lt 25, 3) := by decide +kernel
theorem dX10_fits_81 : decode cX10_fits 81 = .ok (.iload_n 2, 1) := by decide +kernel
theorem dX10_fits_82 : decode cX10_fits 82 = .ok (.bipush 30, 2) := by decide +kernel
theorem dX10_fits_84 : decode cX10_fits 84 = .ok (.aload_n 0, 1) := by decide +kernel
theorem dX10_fits_85 : decode cX10_fits 85 = .ok (.getfield 180, 3) := by decide +kernel
theorem dX10_fits_88 : decode cX10_fits 88 = .ok (.iadd, 1) := by decide +kernel
theorem dX10_fits_89 : decode cX10_fits 89 = .ok (.if_icmp .ge 14, 3) := by decide +kernel
theorem dX10_fits_92 : decode cX10_fits 92 = .ok (.aload_n 0, 1) := by decide +kernel
theorem dX10_fits_93 : decode cX10_fits 93 = .ok (.iload_n 2, 1) := by decide +kernel
theorem dX10_fits_94 : decode cX10_fits 94 = .ok (.bipush 30, 2) := by decide +kernel
theorem dX10_fits_96 : decode cX10_fits 96 = .ok (.isub, 1) := by decide +kernel
theorem dX10_fits_97 : decode cX10_fits 97 = .ok (.invokevirtual 195, 3) := by decide +kernel
theorem dX10_fits_100 : decode cX10_fits 100 = .ok (.goto 4, 3) := by decide +kernel
theorem dX10_fits_103 : decode cX10_fits 103 = .ok (.iconst (-1), 1) := by decide +kernel
theorem dX10_fits_104 : decode cX10_fits 104 = .ok (.ireturn, 1) := by decide +kernel
theorem dX10_isEarlier_0 : decode cX10_isEarlier 0 = .ok (.iconst 0, 1) := by decide +kernel
theorem dX10_isEarlier_1 : decode cX10_isEarlier 1 = .ok (.istore_n 3, 1) := by decide +kernel
theorem dX10_isEarlier_2 : decode cX10_isEarlier 2 = .ok (.iload_n 3, 1) := by decide +kernel
theorem dX10_isEarlier_3 : decode cX10_isEarlier 3 = .ok (.aload_n 0, 1) := by decide +kernel
theorem dX10_isEarlier_4 : decode cX10_isEarlier 4 = .ok (.getfield 17, 3) := by decide +kernel
theorem dX10_isEarlier_7 : decode cX10_isEarlier 7 = .ok (.iload_n 1, 1) := by decide +kernel
theorem dX10_isEarlier_8 : decode cX10_isEarlier 8 = .ok (.iaload, 1) := by decide +kernel
theorem dX10_isEarlier_9 : decode cX10_isEarlier 9 = .ok (.if_icmp .ge 65, 3) := by decide +kernel
theorem dX10_isEarlier_12 : decode cX10_isEarlier 12 = .ok (.iload_n 3, 1) := by decide +kernel
theorem dX10_isEarlier_13 : decode cX10_isEarlier 13 = .ok (.aload_n 0, 1) := by decide +kernel
theorem dX10_isEarlier_14 : decode cX10_isEarlier 14 = .ok (.getfield 17, 3) := by decide +kernel
theorem dX10_isEarlier_17 : decode cX10_isEarlier 17 = .ok (.iload_n 2, 1) := by decide +kernel
theorem dX10_isEarlier_18 : decode cX10_isEarlier 18 = .ok (.iaload, 1) := by decide +kernel
theorem dX10_isEarlier_19 : decode cX10_isEarlier 19 = .ok (.if_icmp .ge 55, 3) := by decide +kernel
theorem dX10_isEarlier_22 : decode cX10_isEarlier 22 = .ok (.aload_n 0, 1) := by decide +kernel
theorem dX10_isEarlier_23 : decode cX10_isEarlier 23 = .ok (.getfield 13, 3) := by decide +kernel
theorem dX10_isEarlier_26 : decode cX10_isEarlier 26 = .ok (.bipush 12, 2) := by decide +kernel
theorem dX10_isEarlier_28 : decode cX10_isEarlier 28 = .ok (.iload_n 1, 1) := by decide +kernel
theorem dX10_isEarlier_29 : decode cX10_isEarlier 29 = .ok (.imul, 1) := by decide +kernel
theorem dX10_isEarlier_30 : decode cX10_isEarlier 30 = .ok (.iload_n 3, 1) := by decide +kernel
theorem dX10_isEarlier_31 : decode cX10_isEarlier 31 = .ok (.iadd, 1) := by decide +kernel
theorem dX10_isEarlier_32 : decode cX10_isEarlier 32 = .ok (.baload, 1) := by decide +kernel
theorem dX10_isEarlier_33 : decode cX10_isEarlier 33 = .ok (.istore 4, 2) := by decide +kernel
theorem dX10_isEarlier_35 : decode cX10_isEarlier 35 = .ok (.aload_n 0, 1) := by decide +kernel
theorem dX10_isEarlier_36 : decode cX10_isEarlier 36 = .ok (.getfield 13, 3) := by decide +kernel
theorem dX10_isEarlier_39 : decode cX10_isEarlier 39 = .ok (.bipush 12, 2) := by decide +kernel
theorem dX10_isEarlier_41 : decode cX10_isEarlier 41 = .ok (.iload_n 2, 1) := by decide +kernel
theorem dX10_isEarlier_42 : decode cX10_isEarlier 42 = .ok (.imul, 1) := by decide +kernel
theorem dX10_isEarlier_43 : decode cX10_isEarlier 43 = .ok (.iload_n 3, 1) := by decide +kernel
theorem dX10_isEarlier_44 : decode cX10_isEarlier 44 = .ok (.iadd, 1) := by decide +kernel
theorem dX10_isEarlier_45 : decode cX10_isEarlier 45 = .ok (.baload, 1) := by decide +kernel
theorem dX10_isEarlier_46 : decode cX10_isEarlier 46 = .ok (.istore 5, 2) := by decide +kernel
theorem dX10_isEarlier_48 : decode cX10_isEarlier 48 = .ok (.iload 4, 2) := by decide +kernel
theorem dX10_isEarlier_50 : decode cX10_isEarlier 50 = .ok (.iload 5, 2) := by decide +kernel
theorem dX10_isEarlier_52 : decode cX10_isEarlier 52 = .ok (.if_icmp .eq 16, 3) := by decide +kernel
theorem dX10_isEarlier_55 : decode cX10_isEarlier 55 = .ok (.iload 4, 2) := by decide +kernel
theorem dX10_isEarlier_57 : decode cX10_isEarlier 57 = .ok (.iload 5, 2) := by decide +kernel
theorem dX10_isEarlier_59 : decode cX10_isEarlier 59 = .ok (.if_icmp .ge 7, 3) := by decide +kernel
theorem dX10_isEarlier_62 : decode cX10_isEarlier 62 = .ok (.iconst 1, 1) := by decide +kernel
theorem dX10_isEarlier_63 : decode cX10_isEarlier 63 = .ok (.goto 4, 3) := by decide +kernel
theorem dX10_isEarlier_66 : decode cX10_isEarlier 66 = .ok (.iconst 0, 1) := by decide +kernel
theorem dX10_isEarlier_67 : decode cX10_isEarlier 67 = .ok (.ireturn, 1) := by decide +kernel
theorem dX10_isEarlier_68 : decode cX10_isEarlier 68 = .ok (.iinc 3 1, 3) := by decide +kernel
theorem dX10_isEarlier_71 : decode cX10_isEarlier 71 = .ok (.goto (-69), 3) := by decide +kernel
theorem dX10_isEarlier_74 : decode cX10_isEarlier 74 = .ok (.aload_n 0, 1) := by decide +kernel
theorem dX10_isEarlier_75 : decode cX10_isEarlier 75 = .ok (.getfield 17, 3) := by decide +kernel
theorem dX10_isEarlier_78 : decode cX10_isEarlier 78 = .ok (.iload_n 1, 1) := by decide +kernel
theorem dX10_isEarlier_79 : decode cX10_isEarlier 79 = .ok (.iaload, 1) := by decide +kernel
theorem dX10_isEarlier_80 : decode cX10_isEarlier 80 = .ok (.aload_n 0, 1) := by decide +kernel
theorem dX10_isEarlier_81 : decode cX10_isEarlier 81 = .ok (.getfield 17, 3) := by decide +kernel
theorem dX10_isEarlier_84 : decode cX10_isEarlier 84 = .ok (.iload_n 2, 1) := by decide +kernel
theorem dX10_isEarlier_85 : decode cX10_isEarlier 85 = .ok (.iaload, 1) := by decide +kernel
theorem dX10_isEarlier_86 : decode cX10_isEarlier 86 = .ok (.if_icmp .ge 7, 3) := by decide +kernel
theorem dX10_isEarlier_89 : decode cX10_isEarlier 89 = .ok (.iconst 1, 1) := by decide +kernel
theorem dX10_isEarlier_90 : decode cX10_isEarlier 90 = .ok (.goto 4, 3) := by decide +kernel
theorem dX10_isEarlier_93 : decode cX10_isEarlier 93 = .ok (.iconst 0, 1) := by decide +kernel
theorem dX10_isEarlier_94 : decode cX10_isEarlier 94 = .ok (.ireturn, 1) := by decide +kernel
theorem dX10_adds_0 : decode cX10_adds 0 = .ok (.aload_n 0, 1) := by decide +kernel
theorem dX10_adds_1 : decode cX10_adds 1 = .ok (.getfield 64, 3) := by decide +kernel
theorem dX10_adds_4 : decode cX10_adds 4 = .ok (.iload_n 1, 1) := by decide +kernel
theorem dX10_adds_5 : decode cX10_adds 5 = .ok (.iaload, 1) := by decide +kernel
theorem dX10_adds_6 : decode cX10_adds 6 = .ok (.bipush 12, 2) := by decide +kernel
theorem dX10_adds_8 : decode cX10_adds 8 = .ok (.if_icmp .ge 24, 3) := by decide +kernel
theorem dX10_adds_11 : decode cX10_adds 11 = .ok (.aload_n 0, 1) := by decide +kernel
theorem dX10_adds_12 : decode cX10_adds 12 = .ok (.getfield 13, 3) := by decide +kernel
theorem dX10_adds_15 : decode cX10_adds 15 = .ok (.bipush 12, 2) := by decide +kernel
theorem dX10_adds_17 : decode cX10_adds 17 = .ok (.bipush 80, 2) := by decide +kernel
theorem dX10_adds_19 : decode cX10_adds 19 = .ok (.iload_n 1, 1) := by decide +kernel
theorem dX10_adds_20 : decode cX10_adds 20 = .ok (.iadd, 1) := by decide +kernel
theorem dX10_adds_21 : decode cX10_adds 21 = .ok (.imul, 1) := by decide +kernel
theorem dX10_adds_22 : decode cX10_adds 22 = .ok (.aload_n 0, 1) := by decide +kernel
theorem dX10_adds_23 : decode cX10_adds 23 = .ok (.getfield 64, 3) := by decide +kernel
theorem dX10_adds_26 : decode cX10_adds 26 = .ok (.iload_n 1, 1) := by decide +kernel
theorem dX10_adds_27 : decode cX10_adds 27 = .ok (.iaload, 1) := by decide +kernel
theorem dX10_adds_28 : decode cX10_adds 28 = .ok (.iadd, 1) := by decide +kernel
theorem dX10_adds_29 : decode cX10_adds 29 = .ok (.iload_n 2, 1) := by decide +kernel
theorem dX10_adds_30 : decode cX10_adds 30 = .ok (.i2b, 1) := by decide +kernel
theorem dX10_adds_31 : decode cX10_adds 31 = .ok (.bastore, 1) := by decide +kernel
theorem dX10_adds_32 : decode cX10_adds 32 = .ok (.aload_n 0, 1) := by decide +kernel
theorem dX10_adds_33 : decode cX10_adds 33 = .ok (.getfield 64, 3) := by decide +kernel
theorem dX10_adds_36 : decode cX10_adds 36 = .ok (.iload_n 1, 1) := by decide +kernel
theorem dX10_adds_37 : decode cX10_adds 37 = .ok (.dup2, 1) := by decide +kernel
theorem dX10_adds_38 : decode cX10_adds 38 = .ok (.iaload, 1) := by decide +kernel
theorem dX10_adds_39 : decode cX10_adds 39 = .ok (.iconst 1, 1) := by decide +kernel
theorem dX10_adds_40 : decode cX10_adds 40 = .ok (.iadd, 1) := by decide +kernel
theorem dX10_adds_41 : decode cX10_adds 41 = .ok (.iastore, 1) := by decide +kernel
theorem dX10_adds_42 : decode cX10_adds 42 = .ok (.return_, 1) := by decide +kernel
theorem dX10_wild_0 : decode cX10_wild 0 = .ok (.iload_n 1, 1) := by decide +kernel
theorem dX10_wild_1 : decode cX10_wild 1 = .ok (.istore_n 2, 1) := by decide +kernel
theorem dX10_wild_2 : decode cX10_wild 2 = .ok (.iconst 0, 1) := by decide +kernel
theorem dX10_wild_3 : decode cX10_wild 3 = .ok (.istore_n 3, 1) := by decide +kernel
theorem dX10_wild_4 : decode cX10_wild 4 = .ok (.iload_n 3, 1) := by decide +kernel
theorem dX10_wild_5 : decode cX10_wild 5 = .ok (.aload_n 0, 1) := by decide +kernel
theorem dX10_wild_6 : decode cX10_wild 6 = .ok (.getfield 180, 3) := by decide +kernel
theorem dX10_wild_9 : decode cX10_wild 9 = .ok (.if_icmp .ge 51, 3) := by decide +kernel
theorem dX10_wild_12 : decode cX10_wild 12 = .ok (.aload_n 0, 1) := by decide +kernel
theorem dX10_wild_13 : decode cX10_wild 13 = .ok (.getfield 31, 3) := by decide +kernel
theorem dX10_wild_16 : decode cX10_wild 16 = .ok (.iload_n 3, 1) := by decide +kernel
theorem dX10_wild_17 : decode cX10_wild 17 = .ok (.iaload, 1) := by decide +kernel
theorem dX10_wild_18 : decode cX10_wild 18 = .ok (.bipush 63, 2) := by decide +kernel
theorem dX10_wild_20 : decode cX10_wild 20 = .ok (.if_icmp .eq 25, 3) := by decide +kernel
theorem dX10_wild_23 : decode cX10_wild 23 = .ok (.aload_n 0, 1) := by decide +kernel
theorem dX10_wild_24 : decode cX10_wild 24 = .ok (.getfield 31, 3) := by decide +kernel
theorem dX10_wild_27 : decode cX10_wild 27 = .ok (.iload_n 3, 1) := by decide +kernel
theorem dX10_wild_28 : decode cX10_wild 28 = .ok (.iaload, 1) := by decide +kernel
theorem dX10_wild_29 : decode cX10_wild 29 = .ok (.bipush 42, 2) := by decide +kernel
theorem dX10_wild_31 : decode cX10_wild 31 = .ok (.if_icmp .eq 14, 3) := by decide +kernel
theorem dX10_wild_34 : decode cX10_wild 34 = .ok (.aload_n 0, 1) := by decide +kernel
theorem dX10_wild_35 : decode cX10_wild 35 = .ok (.getfield 31, 3) := by decide +kernel
theorem dX10_wild_38 : decode cX10_wild 38 = .ok (.iload_n 3, 1) := by decide +kernel
theorem dX10_wild_39 : decode cX10_wild 39 = .ok (.iaload, 1) := by decide +kernel
theorem dX10_wild_40 : decode cX10_wild 40 = .ok (.bipush 35, 2) := by decide +kernel
theorem dX10_wild_42 : decode cX10_wild 42 = .ok (.if_icmp .ne 6, 3) := by decide +kernel
theorem dX10_wild_45 : decode cX10_wild 45 = .ok (.iinc 2 (-1), 3) := by decide +kernel
theorem dX10_wild_48 : decode cX10_wild 48 = .ok (.iload_n 2, 1) := by decide +kernel
theorem dX10_wild_49 : decode cX10_wild 49 = .ok (.ifCond .ne 5, 3) := by decide +kernel
theorem dX10_wild_52 : decode cX10_wild 52 = .ok (.iload_n 3, 1) := by decide +kernel
theorem dX10_wild_53 : decode cX10_wild 53 = .ok (.ireturn, 1) := by decide +kernel
theorem dX10_wild_54 : decode cX10_wild 54 = .ok (.iinc 3 1, 3) := by decide +kernel
theorem dX10_wild_57 : decode cX10_wild 57 = .ok (.goto (-53), 3) := by decide +kernel
theorem dX10_wild_60 : decode cX10_wild 60 = .ok (.iconst (-1), 1) := by decide +kernel
theorem dX10_wild_61 : decode cX10_wild 61 = .ok (.ireturn, 1) := by decide +kernel
set_option maxRecDepth 20000 in
theorem ggX10_addsCounter_X10_adds : GoodIn wsX10_addsCounter wsX10_adds := goodIn_r _ [6, 7, 8, 9, 10, 11, 12, 13, 14, 15, 16, 17, 18, 19, 20, 21, 22, 23, 24, 25, 26, 27, 28, 29, 30, 31, 32, 33, 34, 35, 36, 37, 38, 39, 40, 41, 42, 43, 44, 45, 46, 47, 48, 49, 50, 51, 52] (by decide +kernel) (by decide +kernel)
set_option maxRecDepth 20000 in
theorem gX10_addsCounter_X10_adds : GoodIn wsX10_addsCounter (wsV RX10 198 RX10 yX10_adds wsX10_adds) := goodIn_app (goodIn_of _ (by decide +kernel)) ggX10_addsCounter_X10_adds
theorem dX10_addsCounter_0 : decode cX10_addsCounter 0 = .ok (.iconst 1, 1) := by decide +kernel
theorem dX10_addsCounter_1 : decode cX10_addsCounter 1 = .ok (.istore_n 3, 1) := by decide +kernel
theorem dX10_addsCounter_2 : decode cX10_addsCounter 2 = .ok (.iconst 1, 1) := by decide +kernel
theorem dX10_addsCounter_3 : decode cX10_addsCounter 3 = .ok (.istore 4, 2) := by decide +kernel
theorem dX10_addsCounter_5 : decode cX10_addsCounter 5 = .ok (.aload_n 0, 1) := by decide +kernel
theorem dX10_addsCounter_6 : decode cX10_addsCounter 6 = .ok (.getfield 61, 3) := by decide +kernel
theorem dX10_addsCounter_9 : decode cX10_addsCounter 9 = .ok (.iload_n 1, 1) := by decide +kernel
theorem dX10_addsCounter_10 : decode cX10_addsCounter 10 = .ok (.iaload, 1) := by decide +kernel
theorem dX10_addsCounter_11 : decode cX10_addsCounter 11 = .ok (.iload 4, 2) := by decide +kernel
theorem dX10_addsCounter_13 : decode cX10_addsCounter 13 = .ok (.idiv, 1) := by decide +kernel
theorem dX10_addsCounter_14 : decode cX10_addsCounter 14 = .ok (.bipush 10, 2) := by decide +kernel
theorem dX10_addsCounter_16 : decode cX10_addsCounter 16 = .ok (.if_icmp .lt 16, 3) := by decide +kernel
theorem dX10_addsCounter_19 : decode cX10_addsCounter 19 = .ok (.iload 4, 2) := by decide +kernel
theorem dX10_addsCounter_21 : decode cX10_addsCounter 21 = .ok (.bipush 10, 2) := by decide +kernel
theorem dX10_addsCounter_23 : decode cX10_addsCounter 23 = .ok (.imul, 1) := by decide +kernel
theorem dX10_addsCounter_24 : decode cX10_addsCounter 24 = .ok (.istore 4, 2) := by decide +kernel
theorem dX10_addsCounter_26 : decode cX10_addsCounter 26 = .ok (.iinc 3 1, 3) := by decide +kernel
theorem dX10_addsCounter_29 : decode cX10_addsCounter 29 = .ok (.goto (-24), 3) := by decide +kernel
theorem dX10_addsCounter_32 : decode cX10_addsCounter 32 = .ok (.iload_n 3, 1) := by decide +kernel
theorem dX10_addsCounter_33 : decode cX10_addsCounter 33 = .ok (.istore 5, 2) := by decide +kernel
theorem dX10_addsCounter_35 : decode cX10_addsCounter 35 = .ok (.iload 5, 2) := by decide +kernel
theorem dX10_addsCounter_37 : decode cX10_addsCounter 37 = .ok (.iload_n 2, 1) := by decide +kernel
theorem dX10_addsCounter_38 : decode cX10_addsCounter 38 = .ok (.if_icmp .ge 16, 3) := by decide +kernel
theorem dX10_addsCounter_41 : decode cX10_addsCounter 41 = .ok (.aload_n 0, 1) := by decide +kernel
theorem dX10_addsCounter_42 : decode cX10_addsCounter 42 = .ok (.iload_n 1, 1) := by decide +kernel
theorem dX10_addsCounter_43 : decode cX10_addsCounter 43 = .ok (.bipush 48, 2) := by decide +kernel
theorem dX10_addsCounter_45 : decode cX10_addsCounter 45 = .ok (.invokevirtual 198, 3) := by decide +kernel
theorem dX10_addsCounter_48 : decode cX10_addsCounter 48 = .ok (.iinc 5 1, 3) := by decide +kernel
theorem dX10_addsCounter_51 : decode cX10_addsCounter 51 = .ok (.goto (-16), 3) := by decide +kernel
theorem dX10_addsCounter_54 : decode cX10_addsCounter 54 = .ok (.iload 4, 2) := by decide +kernel
theorem dX10_addsCounter_56 : decode cX10_addsCounter 56 = .ok (.ifCond .le 33, 3) := by decide +kernel
theorem dX10_addsCounter_59 : decode cX10_addsCounter 59 = .ok (.aload_n 0, 1) := by decide +kernel
theorem dX10_addsCounter_60 : decode cX10_addsCounter 60 = .ok (.iload_n 1, 1) := by decide +kernel
theorem dX10_addsCounter_61 : decode cX10_addsCounter 61 = .ok (.bipush 48, 2) := by decide +kernel
theorem dX10_addsCounter_63 : decode cX10_addsCounter 63 = .ok (.aload_n 0, 1) := by decide +kernel
theorem dX10_addsCounter_64 : decode cX10_addsCounter 64 = .ok (.getfield 61, 3) := by decide +kernel
theorem dX10_addsCounter_67 : decode cX10_addsCounter 67 = .ok (.iload_n 1, 1) := by decide +kernel
theorem dX10_addsCounter_68 : decode cX10_addsCounter 68 = .ok (.iaload, 1) := by decide +kernel
theorem dX10_addsCounter_69 : decode cX10_addsCounter 69 = .ok (.iload 4, 2) := by decide +kernel
theorem dX10_addsCounter_71 : decode cX10_addsCounter 71 = .ok (.idiv, 1) := by decide +kernel
theorem dX10_addsCounter_72 : decode cX10_addsCounter 72 = .ok (.bipush 10, 2) := by decide +kernel
theorem dX10_addsCounter_74 : decode cX10_addsCounter 74 = .ok (.irem, 1) := by decide +kernel
theorem dX10_addsCounter_75 : decode cX10_addsCounter 75 = .ok (.iadd, 1) := by decide +kernel
theorem dX10_addsCounter_76 : decode cX10_addsCounter 76 = .ok (.invokevirtual 198, 3) := by decide +kernel
theorem dX10_addsCounter_79 : decode cX10_addsCounter 79 = .ok (.iload 4, 2) := by decide +kernel
theorem dX10_addsCounter_81 : decode cX10_addsCounter 81 = .ok (.bipush 10, 2) := by decide +kernel
theorem dX10_addsCounter_83 : decode cX10_addsCounter 83 = .ok (.idiv, 1) := by decide +kernel
theorem dX10_addsCounter_84 : decode cX10_addsCounter 84 = .ok (.istore 4, 2) := by decide +kernel
theorem dX10_addsCounter_86 : decode cX10_addsCounter 86 = .ok (.goto (-32), 3) := by decide +kernel
theorem dX10_addsCounter_89 : decode cX10_addsCounter 89 = .ok (.return_, 1) := by decide +kernel
set_option maxRecDepth 20000 in
theorem ggX10_makes_X10_isFit : GoodIn wsX10_makes wsX10_isFit := goodIn_r _ [17, 18, 19, 20, 21, 16, 22, 23, 8, 24, 7, 25, 26, 27, 28, 29, 30, 31, 6, 55, 56, 57, 58, 59, 60, 61, 62, 63, 64, 65, 66, 67, 68, 69, 70, 71, 72, 73, 74, 75, 76, 77, 78, 79, 80, 81, 82, 83, 84, 85, 86, 87, 88, 89, 90, 91, 92, 93, 94, 95, 96, 97, 98] (by decide +kernel) (by decide +kernel)
set_option maxRecDepth 20000 in
theorem gX10_makes_X10_isFit : GoodIn wsX10_makes (wsV RX10 192 RX10 yX10_isFit wsX10_isFit) := goodIn_app (goodIn_of _ (by decide +kernel)) ggX10_makes_X10_isFit
set_option maxRecDepth 20000 in
theorem ggX10_makes_X10_addsCounter : GoodIn wsX10_makes wsX10_addsCounter := goodIn_r _ [35, 36, 37, 38, 39, 16, 40, 2, 7, 55, 56, 57, 58, 59, 60, 61, 62, 63, 64, 65, 66, 67, 68, 69, 70, 71, 72, 73, 74, 75, 76, 77, 78, 79, 80, 81, 82, 83, 84, 85, 86, 87, 88, 89, 90, 91, 92, 93, 94, 95, 96, 97, 98] (by decide +kernel) (by decide +kernel)
set_option maxRecDepth 20000 in
theorem gX10_makes_X10_addsCounter : GoodIn wsX10_makes (wsV RX10 201 RX10 yX10_addsCounter wsX10_addsCounter) := goodIn_app (goodIn_of _ (by decide +kernel)) ggX10_makes_X10_addsCounter
set_option maxRecDepth 20000 in
theorem ggX10_makes_X10_wild : GoodIn wsX10_makes wsX10_wild := goodIn_r _ [44, 23, 24, 55, 56, 57, 58, 59, 60, 61, 62, 63, 64, 65, 66, 67, 68, 69, 70, 71, 72, 73, 74, 75, 76, 77, 78, 79, 80, 81, 82, 83, 84, 85, 86, 87, 88, 89, 90, 91, 92, 93, 94, 95, 96, 97, 98] (by decide +kernel) (by decide +kernel)
set_option maxRecDepth 20000 in
theorem gX10_makes_X10_wild : GoodIn wsX10_makes (wsV RX10 204 RX10 yX10_wild wsX10_wild) := goodIn_app (goodIn_of _ (by decide +kernel)) ggX10_makes_X10_wild
set_option maxRecDepth 20000 in
theorem ggX10_makes_X10_firstOf : GoodIn wsX10_makes wsX10_firstOf := goodIn_r _ [48, 6, 55, 56, 57, 58, 59, 60, 61, 62, 63, 64, 65, 66, 67, 68, 69, 70, 71, 72, 73, 74, 75, 76, 77, 78, 79, 80, 81, 82, 83, 84, 85, 86, 87, 88, 89, 90, 91, 92, 93, 94, 95, 96, 97, 98] (by decide +kernel) (by decide +kernel)
set_option maxRecDepth 20000 in
theorem gX10_makes_X10_firstOf : GoodIn wsX10_makes (wsV RX10 195 RX10 yX10_firstOf wsX10_firstOf) := goodIn_app (goodIn_of _ (by decide +kernel)) ggX10_makes_X10_firstOf
set_option maxRecDepth 20000 in
theorem ggX10_makes_X10_high : GoodIn wsX10_makes wsX10_high := goodIn_r _ [51] (by decide +kernel) (by decide +kernel)
set_option maxRecDepth 20000 in
theorem gX10_makes_X10_high : GoodIn wsX10_makes (va_wsS RX10 207 yX10_high wsX10_high) := goodIn_app (goodIn_of _ (by decide +kernel)) ggX10_makes_X10_high
set_option maxRecDepth 20000 in
theorem ggX10_makes_X10_low : GoodIn wsX10_makes wsX10_low := goodIn_r _ [54] (by decide +kernel) (by decide +kernel)
set_option maxRecDepth 20000 in
theorem gX10_makes_X10_low : GoodIn wsX10_makes (va_wsS RX10 108 yX10_low wsX10_low) := goodIn_app (goodIn_of _ (by decide +kernel)) ggX10_makes_X10_low
set_option maxRecDepth 20000 in
theorem ggX10_makes_X10_adds : GoodIn wsX10_makes wsX10_adds := goodIn_r _ [40, 2, 7, 55, 56, 57, 58, 59, 60, 61, 62, 63, 64, 65, 66, 67, 68, 69, 70, 71, 72, 73, 74, 75, 76, 77, 78, 79, 80, 81, 82, 83, 84, 85, 86, 87, 88, 89, 90, 91, 92, 93, 94, 95, 96, 97, 98] (by decide +kernel) (by decide +kernel)
set_option maxRecDepth 20000 in
theorem gX10_makes_X10_adds : GoodIn wsX10_makes (wsV RX10 198 RX10 yX10_adds wsX10_adds) := goodIn_app (goodIn_of _ (by decide +kernel)) ggX10_makes_X10_adds
theorem dX10_makes_0 : decode cX10_makes 0 = .ok (.aload_n 0, 1) := by decide +kernel
theorem dX10_makes_1 : decode cX10_makes 1 = .ok (.getfield 58, 3) := by decide +kernel
theorem dX10_makes_4 : decode cX10_makes 4 = .ok (.iload_n 1, 1) := by decide +kernel
theorem dX10_makes_5 : decode cX10_makes 5 = .ok (.iaload, 1) := by decide +kernel
theorem dX10_makes_6 : decode cX10_makes 6 = .ok (.istore_n 2, 1) := by decide +kernel
theorem dX10_makes_7 : decode cX10_makes 7 = .ok (.aload_n 0, 1) := by decide +kernel
theorem dX10_makes_8 : decode cX10_makes 8 = .ok (.iload_n 2, 1) := by decide +kernel
theorem dX10_makes_9 : decode cX10_makes 9 = .ok (.invokevirtual 192, 3) := by decide +kernel
theorem dX10_makes_12 : decode cX10_makes 12 = .ok (.istore_n 3, 1) := by decide +kernel
theorem dX10_makes_13 : decode cX10_makes 13 = .ok (.aload_n 0, 1) := by decide +kernel
theorem dX10_makes_14 : decode cX10_makes 14 = .ok (.getfield 64, 3) := by decide +kernel
theorem dX10_makes_17 : decode cX10_makes 17 = .ok (.iload_n 1, 1) := by decide +kernel
theorem dX10_makes_18 : decode cX10_makes 18 = .ok (.iconst 0, 1) := by decide +kernel
theorem dX10_makes_19 : decode cX10_makes 19 = .ok (.iastore, 1) := by decide +kernel
theorem dX10_makes_20 : decode cX10_makes 20 = .ok (.iconst 0, 1) := by decide +kernel
theorem dX10_makes_21 : decode cX10_makes 21 = .ok (.istore 4, 2) := by decide +kernel
theorem dX10_makes_23 : decode cX10_makes 23 = .ok (.iload 4, 2) := by decide +kernel
theorem dX10_makes_25 : decode cX10_makes 25 = .ok (.aload_n 0, 1) := by decide +kernel
theorem dX10_makes_26 : decode cX10_makes 26 = .ok (.getfield 183, 3) := by decide +kernel
theorem dX10_makes_29 : decode cX10_makes 29 = .ok (.if_icmp .ge 198, 3) := by decide +kernel
theorem dX10_makes_32 : decode cX10_makes 32 = .ok (.iload_n 3, 1) := by decide +kernel
theorem dX10_makes_33 : decode cX10_makes 33 = .ok (.ifCond .eq 194, 3) := by decide +kernel
theorem dX10_makes_36 : decode cX10_makes 36 = .ok (.aload_n 0, 1) := by decide +kernel
theorem dX10_makes_37 : decode cX10_makes 37 = .ok (.getfield 34, 3) := by decide +kernel
theorem dX10_makes_40 : decode cX10_makes 40 = .ok (.iload 4, 2) := by decide +kernel
theorem dX10_makes_42 : decode cX10_makes 42 = .ok (.iaload, 1) := by decide +kernel
theorem dX10_makes_43 : decode cX10_makes 43 = .ok (.bipush 37, 2) := by decide +kernel
theorem dX10_makes_45 : decode cX10_makes 45 = .ok (.if_icmp .ne 18, 3) := by decide +kernel
theorem dX10_makes_48 : decode cX10_makes 48 = .ok (.aload_n 0, 1) := by decide +kernel
theorem dX10_makes_49 : decode cX10_makes 49 = .ok (.iload_n 1, 1) := by decide +kernel
theorem dX10_makes_50 : decode cX10_makes 50 = .ok (.aload_n 0, 1) := by decide +kernel
theorem dX10_makes_51 : decode cX10_makes 51 = .ok (.getfield 37, 3) := by decide +kernel
theorem dX10_makes_54 : decode cX10_makes 54 = .ok (.iload 4, 2) := by decide +kernel
theorem dX10_makes_56 : decode cX10_makes 56 = .ok (.iaload, 1) := by decide +kernel
theorem dX10_makes_57 : decode cX10_makes 57 = .ok (.invokevirtual 201, 3) := by decide +kernel
theorem dX10_makes_60 : decode cX10_makes 60 = .ok (.goto 161, 3) := by decide +kernel
theorem dX10_makes_63 : decode cX10_makes 63 = .ok (.aload_n 0, 1) := by decide +kernel
theorem dX10_makes_64 : decode cX10_makes 64 = .ok (.getfield 34, 3) := by decide +kernel
theorem dX10_makes_67 : decode cX10_makes 67 = .ok (.iload 4, 2) := by decide +kernel
theorem dX10_makes_69 : decode cX10_makes 69 = .ok (.iaload, 1) := by decide +kernel
theorem dX10_makes_70 : decode cX10_makes 70 = .ok (.bipush 36, 2) := by decide +kernel
theorem dX10_makes_72 : decode cX10_makes 72 = .ok (.if_icmp .eq 27, 3) := by decide +kernel
theorem dX10_makes_75 : decode cX10_makes 75 = .ok (.aload_n 0, 1) := by decide +kernel
theorem dX10_makes_76 : decode cX10_makes 76 = .ok (.getfield 34, 3) := by decide +kernel
theorem dX10_makes_79 : decode cX10_makes 79 = .ok (.iload 4, 2) := by decide +kernel
theorem dX10_makes_81 : decode cX10_makes 81 = .ok (.iaload, 1) := by decide +kernel
theorem dX10_makes_82 : decode cX10_makes 82 = .ok (.bipush 94, 2) := by decide +kernel
theorem dX10_makes_84 : decode cX10_makes 84 = .ok (.if_icmp .eq 15, 3) := by decide +kernel
theorem dX10_makes_87 : decode cX10_makes 87 = .ok (.aload_n 0, 1) := by decide +kernel
theorem dX10_makes_88 : decode cX10_makes 88 = .ok (.getfield 34, 3) := by decide +kernel
theorem dX10_makes_91 : decode cX10_makes 91 = .ok (.iload 4, 2) := by decide +kernel
theorem dX10_makes_93 : decode cX10_makes 93 = .ok (.iaload, 1) := by decide +kernel
theorem dX10_makes_94 : decode cX10_makes 94 = .ok (.bipush 33, 2) := by decide +kernel
theorem dX10_makes_96 : decode cX10_makes 96 = .ok (.if_icmp .ne 113, 3) := by decide +kernel
theorem dX10_makes_99 : decode cX10_makes 99 = .ok (.aload_n 0, 1) := by decide +kernel
theorem dX10_makes_100 : decode cX10_makes 100 = .ok (.aload_n 0, 1) := by decide +kernel
theorem dX10_makes_101 : decode cX10_makes 101 = .ok (.getfield 37, 3) := by decide +kernel
theorem dX10_makes_104 : decode cX10_makes 104 = .ok (.iload 4, 2) := by decide +kernel
theorem dX10_makes_106 : decode cX10_makes 106 = .ok (.iaload, 1) := by decide +kernel
theorem dX10_makes_107 : decode cX10_makes 107 = .ok (.invokevirtual 204, 3) := by decide +kernel
theorem dX10_makes_110 : decode cX10_makes 110 = .ok (.istore 5, 2) := by decide +kernel
theorem dX10_makes_112 : decode cX10_makes 112 = .ok (.aload_n 0, 1) := by decide +kernel
theorem dX10_makes_113 : decode cX10_makes 113 = .ok (.iload 5, 2) := by decide +kernel
theorem dX10_makes_115 : decode cX10_makes 115 = .ok (.invokevirtual 195, 3) := by decide +kernel
theorem dX10_makes_118 : decode cX10_makes 118 = .ok (.istore 6, 2) := by decide +kernel
theorem dX10_makes_120 : decode cX10_makes 120 = .ok (.iload 6, 2) := by decide +kernel
theorem dX10_makes_122 : decode cX10_makes 122 = .ok (.istore 7, 2) := by decide +kernel
theorem dX10_makes_124 : decode cX10_makes 124 = .ok (.iload 7, 2) := by decide +kernel
theorem dX10_makes_126 : decode cX10_makes 126 = .ok (.iload 6, 2) := by decide +kernel
theorem dX10_makes_128 : decode cX10_makes 128 = .ok (.aload_n 0, 1) := by decide +kernel
theorem dX10_makes_129 : decode cX10_makes 129 = .ok (.getfield 52, 3) := by decide +kernel
theorem dX10_makes_132 : decode cX10_makes 132 = .ok (.iload 5, 2) := by decide +kernel
theorem dX10_makes_134 : decode cX10_makes 134 = .ok (.iaload, 1) := by decide +kernel
theorem dX10_makes_135 : decode cX10_makes 135 = .ok (.iadd, 1) := by decide +kernel
theorem dX10_makes_136 : decode cX10_makes 136 = .ok (.if_icmp .ge 70, 3) := by decide +kernel
theorem dX10_makes_139 : decode cX10_makes 139 = .ok (.aload_n 0, 1) := by decide +kernel
theorem dX10_makes_140 : decode cX10_makes 140 = .ok (.getfield 13, 3) := by decide +kernel
theorem dX10_makes_143 : decode cX10_makes 143 = .ok (.bipush 12, 2) := by decide +kernel
theorem dX10_makes_145 : decode cX10_makes 145 = .ok (.iload_n 2, 1) := by decide +kernel
theorem dX10_makes_146 : decode cX10_makes 146 = .ok (.imul, 1) := by decide +kernel
theorem dX10_makes_147 : decode cX10_makes 147 = .ok (.iload 7, 2) := by decide +kernel
theorem dX10_makes_149 : decode cX10_makes 149 = .ok (.iadd, 1) := by decide +kernel
theorem dX10_makes_150 : decode cX10_makes 150 = .ok (.baload, 1) := by decide +kernel
theorem dX10_makes_151 : decode cX10_makes 151 = .ok (.istore 8, 2) := by decide +kernel
theorem dX10_makes_153 : decode cX10_makes 153 = .ok (.aload_n 0, 1) := by decide +kernel
theorem dX10_makes_154 : decode cX10_makes 154 = .ok (.iload_n 1, 1) := by decide +kernel
theorem dX10_makes_155 : decode cX10_makes 155 = .ok (.aload_n 0, 1) := by decide +kernel
theorem dX10_makes_156 : decode cX10_makes 156 = .ok (.getfield 34, 3) := by decide +kernel
theorem dX10_makes_159 : decode cX10_makes 159 = .ok (.iload 4, 2) := by decide +kernel
theorem dX10_makes_161 : decode cX10_makes 161 = .ok (.iaload, 1) := by decide +kernel
theorem dX10_makes_162 : decode cX10_makes 162 = .ok (.bipush 36, 2) := by decide +kernel
theorem dX10_makes_164 : decode cX10_makes 164 = .ok (.if_icmp .ne 8, 3) := by decide +kernel
theorem dX10_makes_167 : decode cX10_makes 167 = .ok (.iload 8, 2) := by decide +kernel
theorem dX10_makes_169 : decode cX10_makes 169 = .ok (.goto 28, 3) := by decide +kernel
theorem dX10_makes_172 : decode cX10_makes 172 = .ok (.aload_n 0, 1) := by decide +kernel
theorem dX10_makes_173 : decode cX10_makes 173 = .ok (.getfield 34, 3) := by decide +kernel
theorem dX10_makes_176 : decode cX10_makes 176 = .ok (.iload 4, 2) := by decide +kernel
theorem dX10_makes_178 : decode cX10_makes 178 = .ok (.iaload, 1) := by decide +kernel
theorem dX10_makes_179 : decode cX10_makes 179 = .ok (.bipush 94, 2) := by decide +kernel
theorem dX10_makes_181 : decode cX10_makes 181 = .ok (.if_icmp .ne 11, 3) := by decide +kernel
theorem dX10_makes_184 : decode cX10_makes 184 = .ok (.iload 8, 2) := by decide +kernel
theorem dX10_makes_186 : decode cX10_makes 186 = .ok (.invokestatic 207, 3) := by decide +kernel
theorem dX10_makes_189 : decode cX10_makes 189 = .ok (.goto 8, 3) := by decide +kernel
theorem dX10_makes_192 : decode cX10_makes 192 = .ok (.iload 8, 2) := by decide +kernel
theorem dX10_makes_194 : decode cX10_makes 194 = .ok (.invokestatic 108, 3) := by decide +kernel
theorem dX10_makes_197 : decode cX10_makes 197 = .ok (.invokevirtual 198, 3) := by decide +kernel
theorem dX10_makes_200 : decode cX10_makes 200 = .ok (.iinc 7 1, 3) := by decide +kernel
theorem dX10_makes_203 : decode cX10_makes 203 = .ok (.goto (-79), 3) := by decide +kernel
theorem dX10_makes_206 : decode cX10_makes 206 = .ok (.goto 15, 3) := by decide +kernel
theorem dX10_makes_209 : decode cX10_makes 209 = .ok (.aload_n 0, 1) := by decide +kernel
theorem dX10_makes_210 : decode cX10_makes 210 = .ok (.iload_n 1, 1) := by decide +kernel
theorem dX10_makes_211 : decode cX10_makes 211 = .ok (.aload_n 0, 1) := by decide +kernel
theorem dX10_makes_212 : decode cX10_makes 212 = .ok (.getfield 34, 3) := by decide +kernel
theorem dX10_makes_215 : decode cX10_makes 215 = .ok (.iload 4, 2) := by decide +kernel
theorem dX10_makes_217 : decode cX10_makes 217 = .ok (.iaload, 1) := by decide +kernel
theorem dX10_makes_218 : decode cX10_makes 218 = .ok (.invokevirtual 198, 3) := by decide +kernel
theorem dX10_makes_221 : decode cX10_makes 221 = .ok (.iinc 4 1, 3) := by decide +kernel
theorem dX10_makes_224 : decode cX10_makes 224 = .ok (.goto (-201), 3) := by decide +kernel
theorem dX10_makes_227 : decode cX10_makes 227 = .ok (.aload_n 0, 1) := by decide +kernel
theorem dX10_makes_228 : decode cX10_makes 228 = .ok (.getfield 17, 3) := by decide +kernel
theorem dX10_makes_231 : decode cX10_makes 231 = .ok (.bipush 80, 2) := by decide +kernel
theorem dX10_makes_233 : decode cX10_makes 233 = .ok (.iload_n 1, 1) := by decide +kernel
theorem dX10_makes_234 : decode cX10_makes 234 = .ok (.iadd, 1) := by decide +kernel
theorem dX10_makes_235 : decode cX10_makes 235 = .ok (.bipush 12, 2) := by decide +kernel
theorem dX10_makes_237 : decode cX10_makes 237 = .ok (.aload_n 0, 1) := by decide +kernel
theorem dX10_makes_238 : decode cX10_makes 238 = .ok (.getfield 64, 3) := by decide +kernel
theorem dX10_makes_241 : decode cX10_makes 241 = .ok (.iload_n 1, 1) := by decide +kernel
theorem dX10_makes_242 : decode cX10_makes 242 = .ok (.iaload, 1) := by decide +kernel
theorem dX10_makes_243 : decode cX10_makes 243 = .ok (.invokestatic 210, 3) := by decide +kernel
theorem dX10_makes_246 : decode cX10_makes 246 = .ok (.iastore, 1) := by decide +kernel
theorem dX10_makes_247 : decode cX10_makes 247 = .ok (.return_, 1) := by decide +kernel
theorem dX10_isBad_0 : decode cX10_isBad 0 = .ok (.aload_n 0, 1) := by decide +kernel
theorem dX10_isBad_1 : decode cX10_isBad 1 = .ok (.getfield 64, 3) := by decide +kernel
theorem dX10_isBad_4 : decode cX10_isBad 4 = .ok (.iload_n 1, 1) := by decide +kernel
theorem dX10_isBad_5 : decode cX10_isBad 5 = .ok (.iaload, 1) := by decide +kernel
theorem dX10_isBad_6 : decode cX10_isBad 6 = .ok (.iconst 1, 1) := by decide +kernel
theorem dX10_isBad_7 : decode cX10_isBad 7 = .ok (.if_icmp .lt 14, 3) := by decide +kernel
theorem dX10_isBad_10 : decode cX10_isBad 10 = .ok (.aload_n 0, 1) := by decide +kernel
theorem dX10_isBad_11 : decode cX10_isBad 11 = .ok (.getfield 64, 3) := by decide +kernel
theorem dX10_isBad_14 : decode cX10_isBad 14 = .ok (.iload_n 1, 1) := by decide +kernel
theorem dX10_isBad_15 : decode cX10_isBad 15 = .ok (.iaload, 1) := by decide +kernel
theorem dX10_isBad_16 : decode cX10_isBad 16 = .ok (.bipush 12, 2) := by decide +kernel
theorem dX10_isBad_18 : decode cX10_isBad 18 = .ok (.if_icmp .le 7, 3) := by decide +kernel
theorem dX10_isBad_21 : decode cX10_isBad 21 = .ok (.iconst 1, 1) := by decide +kernel
theorem dX10_isBad_22 : decode cX10_isBad 22 = .ok (.goto 4, 3) := by decide +kernel
theorem dX10_isBad_25 : decode cX10_isBad 25 = .ok (.iconst 0, 1) := by decide +kernel
theorem dX10_isBad_26 : decode cX10_isBad 26 = .ok (.ireturn, 1) := by decide +kernel
theorem dX10_placeOf_0 : decode cX10_placeOf 0 = .ok (.iconst 0, 1) := by decide +kernel
theorem dX10_placeOf_1 : decode cX10_placeOf 1 = .ok (.istore_n 2, 1) := by decide +kernel
theorem dX10_placeOf_2 : decode cX10_placeOf 2 = .ok (.iload_n 2, 1) := by decide +kernel
theorem dX10_placeOf_3 : decode cX10_placeOf 3 = .ok (.aload_n 0, 1) := by decide +kernel
theorem dX10_placeOf_4 : decode cX10_placeOf 4 = .ok (.getfield 215, 3) := by decide +kernel
theorem dX10_placeOf_7 : decode cX10_placeOf 7 = .ok (.if_icmp .ge 21, 3) := by decide +kernel
theorem dX10_placeOf_10 : decode cX10_placeOf 10 = .ok (.aload_n 0, 1) := by decide +kernel
theorem dX10_placeOf_11 : decode cX10_placeOf 11 = .ok (.getfield 58, 3) := by decide +kernel
theorem dX10_placeOf_14 : decode cX10_placeOf 14 = .ok (.iload_n 2, 1) := by decide +kernel
theorem dX10_placeOf_15 : decode cX10_placeOf 15 = .ok (.iaload, 1) := by decide +kernel
theorem dX10_placeOf_16 : decode cX10_placeOf 16 = .ok (.iload_n 1, 1) := by decide +kernel
theorem dX10_placeOf_17 : decode cX10_placeOf 17 = .ok (.if_icmp .ne 5, 3) := by decide +kernel
theorem dX10_placeOf_20 : decode cX10_placeOf 20 = .ok (.iload_n 2, 1) := by decide +kernel
theorem dX10_placeOf_21 : decode cX10_placeOf 21 = .ok (.ireturn, 1) := by decide +kernel
theorem dX10_placeOf_22 : decode cX10_placeOf 22 = .ok (.iinc 2 1, 3) := by decide +kernel
theorem dX10_placeOf_25 : decode cX10_placeOf 25 = .ok (.goto (-23), 3) := by decide +kernel
theorem dX10_placeOf_28 : decode cX10_placeOf 28 = .ok (.iconst (-1), 1) := by decide +kernel
theorem dX10_placeOf_29 : decode cX10_placeOf 29 = .ok (.ireturn, 1) := by decide +kernel
set_option maxRecDepth 20000 in
theorem ggX10_findTrouble_X10_isBad : GoodIn wsX10_findTrouble wsX10_isBad := goodIn_r _ [10, 11, 37, 38, 39, 40, 41, 42, 43, 44, 45, 46, 47, 48, 49, 50, 51, 52, 53, 54, 55, 56, 57, 58, 59, 60, 61, 62, 63, 64, 65, 66, 67, 68, 69, 70, 71, 72, 73, 74, 75, 76, 77, 78, 79, 80] (by decide +kernel) (by decide +kernel)
set_option maxRecDepth 20000 in
theorem gX10_findTrouble_X10_isBad : GoodIn wsX10_findTrouble (wsV RX10 218 RX10 yX10_isBad wsX10_isBad) := goodIn_app (goodIn_of _ (by decide +kernel)) ggX10_findTrouble_X10_isBad
set_option maxRecDepth 20000 in
theorem ggX10_findTrouble_X10_isAlike : GoodIn wsX10_findTrouble wsX10_isAlike := goodIn_r _ [15, 16, 17, 18, 19, 20, 21, 22, 9, 23, 24, 25, 26, 37, 38, 39, 40, 41, 42, 43, 44, 45, 46, 47, 48, 49, 50, 51, 52, 53, 54, 55, 56, 57, 58, 59, 60, 61, 62, 63, 64, 65, 66, 67, 68, 69, 70, 71, 72, 73, 74, 75, 76, 77, 78, 79, 80] (by decide +kernel) (by decide +kernel)
set_option maxRecDepth 20000 in
theorem gX10_findTrouble_X10_isAlike : GoodIn wsX10_findTrouble (wsV RX10 115 RX10 yX10_isAlike wsX10_isAlike) := goodIn_app (goodIn_of _ (by decide +kernel)) ggX10_findTrouble_X10_isAlike
set_option maxRecDepth 20000 in
theorem ggX10_findTrouble_X10_alikeTo : GoodIn wsX10_findTrouble wsX10_alikeTo := goodIn_r _ [30, 31, 32, 12, 13, 14, 9, 15, 16, 17, 18, 19, 20, 21, 22, 23, 24, 25, 26, 37, 38, 39, 40, 41, 42, 43, 44, 45, 46, 47, 48, 49, 50, 51, 52, 53, 54, 55, 56, 57, 58, 59, 60, 61, 62, 63, 64, 65, 66, 67, 68, 69, 70, 71, 72, 73, 74, 75, 76, 77, 78, 79, 80] (by decide +kernel) (by decide +kernel)
set_option maxRecDepth 20000 in
theorem gX10_findTrouble_X10_alikeTo : GoodIn wsX10_findTrouble (wsV RX10 146 RX10 yX10_alikeTo wsX10_alikeTo) := goodIn_app (goodIn_of _ (by decide +kernel)) ggX10_findTrouble_X10_alikeTo
set_option maxRecDepth 20000 in
theorem ggX10_findTrouble_X10_placeOf : GoodIn wsX10_findTrouble wsX10_placeOf := goodIn_r _ [36, 3, 4, 37, 38, 39, 40, 41, 42, 43, 44, 45, 46, 47, 48, 49, 50, 51, 52, 53, 54, 55, 56, 57, 58, 59, 60, 61, 62, 63, 64, 65, 66, 67, 68, 69, 70, 71, 72, 73, 74, 75, 76, 77, 78, 79, 80] (by decide +kernel) (by decide +kernel)
set_option maxRecDepth 20000 in
theorem gX10_findTrouble_X10_placeOf : GoodIn wsX10_findTrouble (wsV RX10 221 RX10 yX10_placeOf wsX10_placeOf) := goodIn_app (goodIn_of _ (by decide +kernel)) ggX10_findTrouble_X10_placeOf
theorem dX10_findTrouble_0 : decode cX10_findTrouble 0 = .ok (.aload_n 0, 1) := by decide +kernel
theorem dX10_findTrouble_1 : decode cX10_findTrouble 1 = .ok (.getfield 67, 3) := by decide +kernel
theorem dX10_findTrouble_4 : decode cX10_findTrouble 4 = .ok (.iload_n 1, 1) := by decide +kernel
theorem dX10_findTrouble_5 : decode cX10_findTrouble 5 = .ok (.iconst 0, 1) := by decide +kernel
theorem dX10_findTrouble_6 : decode cX10_findTrouble 6 = .ok (.iastore, 1) := by decide +kernel
theorem dX10_findTrouble_7 : decode cX10_findTrouble 7 = .ok (.aload_n 0, 1) := by decide +kernel
theorem dX10_findTrouble_8 : decode cX10_findTrouble 8 = .ok (.getfield 70, 3) := by decide +kernel
theorem dX10_findTrouble_11 : decode cX10_findTrouble 11 = .ok (.iload_n 1, 1) := by decide +kernel
theorem dX10_findTrouble_12 : decode cX10_findTrouble 12 = .ok (.iconst (-1), 1) := by decide +kernel
theorem dX10_findTrouble_13 : decode cX10_findTrouble 13 = .ok (.iastore, 1) := by decide +kernel
theorem dX10_findTrouble_14 : decode cX10_findTrouble 14 = .ok (.aload_n 0, 1) := by decide +kernel
theorem dX10_findTrouble_15 : decode cX10_findTrouble 15 = .ok (.iload_n 1, 1) := by decide +kernel
theorem dX10_findTrouble_16 : decode cX10_findTrouble 16 = .ok (.invokevirtual 218, 3) := by decide +kernel
theorem dX10_findTrouble_19 : decode cX10_findTrouble 19 = .ok (.ifCond .eq 11, 3) := by decide +kernel
theorem dX10_findTrouble_22 : decode cX10_findTrouble 22 = .ok (.aload_n 0, 1) := by decide +kernel
theorem dX10_findTrouble_23 : decode cX10_findTrouble 23 = .ok (.getfield 67, 3) := by decide +kernel
theorem dX10_findTrouble_26 : decode cX10_findTrouble 26 = .ok (.iload_n 1, 1) := by decide +kernel
theorem dX10_findTrouble_27 : decode cX10_findTrouble 27 = .ok (.iconst 1, 1) := by decide +kernel
theorem dX10_findTrouble_28 : decode cX10_findTrouble 28 = .ok (.iastore, 1) := by decide +kernel
theorem dX10_findTrouble_29 : decode cX10_findTrouble 29 = .ok (.return_, 1) := by decide +kernel
theorem dX10_findTrouble_30 : decode cX10_findTrouble 30 = .ok (.iconst 0, 1) := by decide +kernel
theorem dX10_findTrouble_31 : decode cX10_findTrouble 31 = .ok (.istore_n 2, 1) := by decide +kernel
theorem dX10_findTrouble_32 : decode cX10_findTrouble 32 = .ok (.iload_n 2, 1) := by decide +kernel
theorem dX10_findTrouble_33 : decode cX10_findTrouble 33 = .ok (.aload_n 0, 1) := by decide +kernel
theorem dX10_findTrouble_34 : decode cX10_findTrouble 34 = .ok (.getfield 215, 3) := by decide +kernel
theorem dX10_findTrouble_37 : decode cX10_findTrouble 37 = .ok (.if_icmp .ge 60, 3) := by decide +kernel
theorem dX10_findTrouble_40 : decode cX10_findTrouble 40 = .ok (.iload_n 2, 1) := by decide +kernel
theorem dX10_findTrouble_41 : decode cX10_findTrouble 41 = .ok (.iload_n 1, 1) := by decide +kernel
theorem dX10_findTrouble_42 : decode cX10_findTrouble 42 = .ok (.if_icmp .eq 49, 3) := by decide +kernel
theorem dX10_findTrouble_45 : decode cX10_findTrouble 45 = .ok (.aload_n 0, 1) := by decide +kernel
theorem dX10_findTrouble_46 : decode cX10_findTrouble 46 = .ok (.iload_n 2, 1) := by decide +kernel
theorem dX10_findTrouble_47 : decode cX10_findTrouble 47 = .ok (.invokevirtual 218, 3) := by decide +kernel
theorem dX10_findTrouble_50 : decode cX10_findTrouble 50 = .ok (.ifCond .ne 41, 3) := by decide +kernel
theorem dX10_findTrouble_53 : decode cX10_findTrouble 53 = .ok (.aload_n 0, 1) := by decide +kernel
theorem dX10_findTrouble_54 : decode cX10_findTrouble 54 = .ok (.bipush 80, 2) := by decide +kernel
theorem dX10_findTrouble_56 : decode cX10_findTrouble 56 = .ok (.iload_n 2, 1) := by decide +kernel
theorem dX10_findTrouble_57 : decode cX10_findTrouble 57 = .ok (.iadd, 1) := by decide +kernel
theorem dX10_findTrouble_58 : decode cX10_findTrouble 58 = .ok (.bipush 80, 2) := by decide +kernel
theorem dX10_findTrouble_60 : decode cX10_findTrouble 60 = .ok (.iload_n 1, 1) := by decide +kernel
theorem dX10_findTrouble_61 : decode cX10_findTrouble 61 = .ok (.iadd, 1) := by decide +kernel
theorem dX10_findTrouble_62 : decode cX10_findTrouble 62 = .ok (.invokevirtual 115, 3) := by decide +kernel
theorem dX10_findTrouble_65 : decode cX10_findTrouble 65 = .ok (.ifCond .ne 6, 3) := by decide +kernel
theorem dX10_findTrouble_68 : decode cX10_findTrouble 68 = .ok (.goto 23, 3) := by decide +kernel
theorem dX10_findTrouble_71 : decode cX10_findTrouble 71 = .ok (.aload_n 0, 1) := by decide +kernel
theorem dX10_findTrouble_72 : decode cX10_findTrouble 72 = .ok (.getfield 67, 3) := by decide +kernel
theorem dX10_findTrouble_75 : decode cX10_findTrouble 75 = .ok (.iload_n 1, 1) := by decide +kernel
theorem dX10_findTrouble_76 : decode cX10_findTrouble 76 = .ok (.iconst 2, 1) := by decide +kernel
theorem dX10_findTrouble_77 : decode cX10_findTrouble 77 = .ok (.iastore, 1) := by decide +kernel
theorem dX10_findTrouble_78 : decode cX10_findTrouble 78 = .ok (.aload_n 0, 1) := by decide +kernel
theorem dX10_findTrouble_79 : decode cX10_findTrouble 79 = .ok (.getfield 70, 3) := by decide +kernel
theorem dX10_findTrouble_82 : decode cX10_findTrouble 82 = .ok (.iload_n 1, 1) := by decide +kernel
theorem dX10_findTrouble_83 : decode cX10_findTrouble 83 = .ok (.aload_n 0, 1) := by decide +kernel
theorem dX10_findTrouble_84 : decode cX10_findTrouble 84 = .ok (.getfield 58, 3) := by decide +kernel
theorem dX10_findTrouble_87 : decode cX10_findTrouble 87 = .ok (.iload_n 2, 1) := by decide +kernel
theorem dX10_findTrouble_88 : decode cX10_findTrouble 88 = .ok (.iaload, 1) := by decide +kernel
theorem dX10_findTrouble_89 : decode cX10_findTrouble 89 = .ok (.iastore, 1) := by decide +kernel
theorem dX10_findTrouble_90 : decode cX10_findTrouble 90 = .ok (.return_, 1) := by decide +kernel
theorem dX10_findTrouble_91 : decode cX10_findTrouble 91 = .ok (.iinc 2 1, 3) := by decide +kernel
theorem dX10_findTrouble_94 : decode cX10_findTrouble 94 = .ok (.goto (-62), 3) := by decide +kernel
theorem dX10_findTrouble_97 : decode cX10_findTrouble 97 = .ok (.aload_n 0, 1) := by decide +kernel
theorem dX10_findTrouble_98 : decode cX10_findTrouble 98 = .ok (.bipush 80, 2) := by decide +kernel
theorem dX10_findTrouble_100 : decode cX10_findTrouble 100 = .ok (.iload_n 1, 1) := by decide +kernel
theorem dX10_findTrouble_101 : decode cX10_findTrouble 101 = .ok (.iadd, 1) := by decide +kernel
theorem dX10_findTrouble_102 : decode cX10_findTrouble 102 = .ok (.aload_n 0, 1) := by decide +kernel
theorem dX10_findTrouble_103 : decode cX10_findTrouble 103 = .ok (.getfield 58, 3) := by decide +kernel
theorem dX10_findTrouble_106 : decode cX10_findTrouble 106 = .ok (.iload_n 1, 1) := by decide +kernel
theorem dX10_findTrouble_107 : decode cX10_findTrouble 107 = .ok (.iaload, 1) := by decide +kernel
theorem dX10_findTrouble_108 : decode cX10_findTrouble 108 = .ok (.invokevirtual 146, 3) := by decide +kernel
theorem dX10_findTrouble_111 : decode cX10_findTrouble 111 = .ok (.istore_n 2, 1) := by decide +kernel
theorem dX10_findTrouble_112 : decode cX10_findTrouble 112 = .ok (.aload_n 0, 1) := by decide +kernel
theorem dX10_findTrouble_113 : decode cX10_findTrouble 113 = .ok (.getfield 73, 3) := by decide +kernel
theorem dX10_findTrouble_116 : decode cX10_findTrouble 116 = .ok (.iload_n 1, 1) := by decide +kernel
theorem dX10_findTrouble_117 : decode cX10_findTrouble 117 = .ok (.baload, 1) := by decide +kernel
theorem dX10_findTrouble_118 : decode cX10_findTrouble 118 = .ok (.ifCond .ne 8, 3) := by decide +kernel
theorem dX10_findTrouble_121 : decode cX10_findTrouble 121 = .ok (.iload_n 2, 1) := by decide +kernel
theorem dX10_findTrouble_122 : decode cX10_findTrouble 122 = .ok (.iconst (-1), 1) := by decide +kernel
theorem dX10_findTrouble_123 : decode cX10_findTrouble 123 = .ok (.if_icmp .ne 4, 3) := by decide +kernel
theorem dX10_findTrouble_126 : decode cX10_findTrouble 126 = .ok (.return_, 1) := by decide +kernel
theorem dX10_findTrouble_127 : decode cX10_findTrouble 127 = .ok (.aload_n 0, 1) := by decide +kernel
theorem dX10_findTrouble_128 : decode cX10_findTrouble 128 = .ok (.iload_n 2, 1) := by decide +kernel
theorem dX10_findTrouble_129 : decode cX10_findTrouble 129 = .ok (.invokevirtual 221, 3) := by decide +kernel
theorem dX10_findTrouble_132 : decode cX10_findTrouble 132 = .ok (.istore_n 3, 1) := by decide +kernel
theorem dX10_findTrouble_133 : decode cX10_findTrouble 133 = .ok (.iload_n 3, 1) := by decide +kernel
theorem dX10_findTrouble_134 : decode cX10_findTrouble 134 = .ok (.iconst (-1), 1) := by decide +kernel
theorem dX10_findTrouble_135 : decode cX10_findTrouble 135 = .ok (.if_icmp .eq 21, 3) := by decide +kernel
theorem dX10_findTrouble_138 : decode cX10_findTrouble 138 = .ok (.aload_n 0, 1) := by decide +kernel
theorem dX10_findTrouble_139 : decode cX10_findTrouble 139 = .ok (.iload_n 3, 1) := by decide +kernel
theorem dX10_findTrouble_140 : decode cX10_findTrouble 140 = .ok (.invokevirtual 218, 3) := by decide +kernel
theorem dX10_findTrouble_143 : decode cX10_findTrouble 143 = .ok (.ifCond .ne 13, 3) := by decide +kernel
theorem dX10_findTrouble_146 : decode cX10_findTrouble 146 = .ok (.aload_n 0, 1) := by decide +kernel
theorem dX10_findTrouble_147 : decode cX10_findTrouble 147 = .ok (.getfield 73, 3) := by decide +kernel
theorem dX10_findTrouble_150 : decode cX10_findTrouble 150 = .ok (.iload_n 3, 1) := by decide +kernel
theorem dX10_findTrouble_151 : decode cX10_findTrouble 151 = .ok (.baload, 1) := by decide +kernel
theorem dX10_findTrouble_152 : decode cX10_findTrouble 152 = .ok (.ifCond .ne 4, 3) := by decide +kernel
theorem dX10_findTrouble_155 : decode cX10_findTrouble 155 = .ok (.return_, 1) := by decide +kernel
theorem dX10_findTrouble_156 : decode cX10_findTrouble 156 = .ok (.aload_n 0, 1) := by decide +kernel
theorem dX10_findTrouble_157 : decode cX10_findTrouble 157 = .ok (.getfield 67, 3) := by decide +kernel
theorem dX10_findTrouble_160 : decode cX10_findTrouble 160 = .ok (.iload_n 1, 1) := by decide +kernel
theorem dX10_findTrouble_161 : decode cX10_findTrouble 161 = .ok (.iconst 3, 1) := by decide +kernel
theorem dX10_findTrouble_162 : decode cX10_findTrouble 162 = .ok (.iastore, 1) := by decide +kernel
theorem dX10_findTrouble_163 : decode cX10_findTrouble 163 = .ok (.aload_n 0, 1) := by decide +kernel
theorem dX10_findTrouble_164 : decode cX10_findTrouble 164 = .ok (.getfield 70, 3) := by decide +kernel
theorem dX10_findTrouble_167 : decode cX10_findTrouble 167 = .ok (.iload_n 1, 1) := by decide +kernel
theorem dX10_findTrouble_168 : decode cX10_findTrouble 168 = .ok (.iload_n 2, 1) := by decide +kernel
theorem dX10_findTrouble_169 : decode cX10_findTrouble 169 = .ok (.iastore, 1) := by decide +kernel
theorem dX10_findTrouble_170 : decode cX10_findTrouble 170 = .ok (.return_, 1) := by decide +kernel
set_option maxRecDepth 20000 in
theorem ggX10_plan_X10_within : GoodIn wsX10_plan wsX10_within := goodIn_r _ [15] (by decide +kernel) (by decide +kernel)
set_option maxRecDepth 20000 in
theorem gX10_plan_X10_within : GoodIn wsX10_plan (va_wsS RX10 136 yX10_within wsX10_within) := goodIn_app (goodIn_of _ (by decide +kernel)) ggX10_plan_X10_within
set_option maxRecDepth 20000 in
theorem ggX10_plan_X10_isUnderWay : GoodIn wsX10_plan wsX10_isUnderWay := goodIn_r _ [19, 3, 5, 20, 146, 147, 148, 149, 150, 151, 152, 153, 154, 155, 156, 157, 158, 159, 160, 161, 162, 163, 164, 165, 166, 167, 168, 169, 170, 171, 172, 173, 174, 175, 176, 177, 178, 179, 180, 181, 182, 183, 184, 185, 186, 187, 188, 189] (by decide +kernel) (by decide +kernel)
set_option maxRecDepth 20000 in
theorem gX10_plan_X10_isUnderWay : GoodIn wsX10_plan (wsV RX10 224 RX10 yX10_isUnderWay wsX10_isUnderWay) := goodIn_app (goodIn_of _ (by decide +kernel)) ggX10_plan_X10_isUnderWay
set_option maxRecDepth 20000 in
theorem ggX10_plan_X10_isFit : GoodIn wsX10_plan wsX10_isFit := goodIn_r _ [24, 25, 26, 27, 28, 14, 29, 2, 30, 31, 32, 33, 34, 35, 36, 37, 38, 39, 40, 146, 147, 148, 149, 150, 151, 152, 153, 154, 155, 156, 157, 158, 159, 160, 161, 162, 163, 164, 165, 166, 167, 168, 169, 170, 171, 172, 173, 174, 175, 176, 177, 178, 179, 180, 181, 182, 183, 184, 185, 186, 187, 188, 189] (by decide +kernel) (by decide +kernel)
set_option maxRecDepth 20000 in
theorem gX10_plan_X10_isFit : GoodIn wsX10_plan (wsV RX10 192 RX10 yX10_isFit wsX10_isFit) := goodIn_app (goodIn_of _ (by decide +kernel)) ggX10_plan_X10_isFit
set_option maxRecDepth 20000 in
theorem ggX10_plan_X10_isEarlier : GoodIn wsX10_plan wsX10_isEarlier := goodIn_r _ [44, 30, 32, 146, 147, 148, 149, 150, 151, 152, 153, 154, 155, 156, 157, 158, 159, 160, 161, 162, 163, 164, 165, 166, 167, 168, 169, 170, 171, 172, 173, 174, 175, 176, 177, 178, 179, 180, 181, 182, 183, 184, 185, 186, 187, 188, 189] (by decide +kernel) (by decide +kernel)
set_option maxRecDepth 20000 in
theorem gX10_plan_X10_isEarlier : GoodIn wsX10_plan (wsV RX10 234 RX10 yX10_isEarlier wsX10_isEarlier) := goodIn_app (goodIn_of _ (by decide +kernel)) ggX10_plan_X10_isEarlier
set_option maxRecDepth 20000 in
theorem ggX10_plan_X10_makes : GoodIn wsX10_plan wsX10_makes := goodIn_r _ [48, 9, 49, 50, 51, 52, 40, 32, 30, 53, 54, 55, 56, 21, 22, 23, 14, 24, 25, 26, 27, 28, 29, 2, 31, 33, 34, 35, 36, 37, 38, 39, 57, 58, 59, 60, 10, 61, 62, 63, 64, 65, 66, 67, 68, 69, 70, 71, 72, 73, 74, 75, 76, 77, 78, 146, 147, 148, 149, 150, 151, 152, 153, 154, 155, 156, 157, 158, 159, 160, 161, 162, 163, 164, 165, 166, 167, 168, 169, 170, 171, 172, 173, 174, 175, 176, 177, 178, 179, 180, 181, 182, 183, 184, 185, 186, 187, 188, 189] (by decide +kernel) (by decide +kernel)
set_option maxRecDepth 20000 in
theorem gX10_plan_X10_makes : GoodIn wsX10_plan (wsV RX10 237 RX10 yX10_makes wsX10_makes) := goodIn_app (goodIn_of _ (by decide +kernel)) ggX10_plan_X10_makes
set_option maxRecDepth 20000 in
theorem ggX10_plan_X10_isBad : GoodIn wsX10_plan wsX10_isBad := goodIn_r _ [82, 49, 146, 147, 148, 149, 150, 151, 152, 153, 154, 155, 156, 157, 158, 159, 160, 161, 162, 163, 164, 165, 166, 167, 168, 169, 170, 171, 172, 173, 174, 175, 176, 177, 178, 179, 180, 181, 182, 183, 184, 185, 186, 187, 188, 189] (by decide +kernel) (by decide +kernel)
set_option maxRecDepth 20000 in
theorem gX10_plan_X10_isBad : GoodIn wsX10_plan (wsV RX10 218 RX10 yX10_isBad wsX10_isBad) := goodIn_app (goodIn_of _ (by decide +kernel)) ggX10_plan_X10_isBad
set_option maxRecDepth 20000 in
theorem ggX10_plan_X10_isJust : GoodIn wsX10_plan wsX10_isJust := goodIn_r _ [86, 8, 30, 32, 146, 147, 148, 149, 150, 151, 152, 153, 154, 155, 156, 157, 158, 159, 160, 161, 162, 163, 164, 165, 166, 167, 168, 169, 170, 171, 172, 173, 174, 175, 176, 177, 178, 179, 180, 181, 182, 183, 184, 185, 186, 187, 188, 189] (by decide +kernel) (by decide +kernel)
set_option maxRecDepth 20000 in
theorem gX10_plan_X10_isJust : GoodIn wsX10_plan (wsV RX10 104 RX10 yX10_isJust wsX10_isJust) := goodIn_app (goodIn_of _ (by decide +kernel)) ggX10_plan_X10_isJust
set_option maxRecDepth 20000 in
theorem ggX10_plan_X10_findTrouble : GoodIn wsX10_plan wsX10_findTrouble := goodIn_r _ [90, 91, 92, 4, 9, 11, 79, 80, 81, 14, 82, 49, 93, 94, 95, 96, 97, 8, 30, 32, 83, 84, 85, 86, 76, 77, 78, 98, 99, 100, 101, 6, 7, 102, 103, 104, 105, 146, 147, 148, 149, 150, 151, 152, 153, 154, 155, 156, 157, 158, 159, 160, 161, 162, 163, 164, 165, 166, 167, 168, 169, 170, 171, 172, 173, 174, 175, 176, 177, 178, 179, 180, 181, 182, 183, 184, 185, 186, 187, 188, 189] (by decide +kernel) (by decide +kernel)
set_option maxRecDepth 20000 in
theorem gX10_plan_X10_findTrouble : GoodIn wsX10_plan (wsV RX10 241 RX10 yX10_findTrouble wsX10_findTrouble) := goodIn_app (goodIn_of _ (by decide +kernel)) ggX10_plan_X10_findTrouble
set_option maxRecDepth 20000 in
theorem ggX10_plan_X10_findSteps : GoodIn wsX10_plan wsX10_findSteps := goodIn_r _ [109, 20, 110, 111, 6, 112, 113, 114, 14, 115, 4, 3, 91, 116, 117, 118, 119, 8, 30, 32, 120, 121, 122, 123, 11, 9, 124, 125, 126, 127, 7, 93, 94, 95, 96, 97, 83, 84, 85, 86, 76, 77, 78, 128, 129, 130, 131, 132, 133, 134, 135, 136, 137, 138, 139, 140, 141, 142, 143, 144, 145, 146, 147, 148, 149, 150, 151, 152, 153, 154, 155, 156, 157, 158, 159, 160, 161, 162, 163, 164, 165, 166, 167, 168, 169, 170, 171, 172, 173, 174, 175, 176, 177, 178, 179, 180, 181, 182, 183, 184, 185, 186, 187, 188, 189] (by decide +kernel) (by decide +kernel)
set_option maxRecDepth 20000 in
theorem gX10_plan_X10_findSteps : GoodIn wsX10_plan (wsV RX10 244 RX10 yX10_findSteps wsX10_findSteps) := goodIn_app (goodIn_of _ (by decide +kernel)) ggX10_plan_X10_findSteps
theorem dX10_plan_0 : decode cX10_plan 0 = .ok (.aload_n 0, 1) := by decide +kernel
theorem dX10_plan_1 : decode cX10_plan 1 = .ok (.iconst 0, 1) := by decide +kernel
theorem dX10_plan_2 : decode cX10_plan 2 = .ok (.putfield 1, 3) := by decide +kernel
theorem dX10_plan_5 : decode cX10_plan 5 = .ok (.iload_n 1, 1) := by decide +kernel
theorem dX10_plan_6 : decode cX10_plan 6 = .ok (.iconst 0, 1) := by decide +kernel
theorem dX10_plan_7 : decode cX10_plan 7 = .ok (.iconst 5, 1) := by decide +kernel
theorem dX10_plan_8 : decode cX10_plan 8 = .ok (.invokestatic 136, 3) := by decide +kernel
theorem dX10_plan_11 : decode cX10_plan 11 = .ok (.ifCond .eq 41, 3) := by decide +kernel
theorem dX10_plan_14 : decode cX10_plan 14 = .ok (.iload_n 2, 1) := by decide +kernel
theorem dX10_plan_15 : decode cX10_plan 15 = .ok (.iconst 0, 1) := by decide +kernel
theorem dX10_plan_16 : decode cX10_plan 16 = .ok (.iconst 5, 1) := by decide +kernel
theorem dX10_plan_17 : decode cX10_plan 17 = .ok (.invokestatic 136, 3) := by decide +kernel
theorem dX10_plan_20 : decode cX10_plan 20 = .ok (.ifCond .eq 32, 3) := by decide +kernel
theorem dX10_plan_23 : decode cX10_plan 23 = .ok (.iload_n 3, 1) := by decide +kernel
theorem dX10_plan_24 : decode cX10_plan 24 = .ok (.iconst 0, 1) := by decide +kernel
theorem dX10_plan_25 : decode cX10_plan 25 = .ok (.sipush 999, 3) := by decide +kernel
theorem dX10_plan_28 : decode cX10_plan 28 = .ok (.invokestatic 136, 3) := by decide +kernel
theorem dX10_plan_31 : decode cX10_plan 31 = .ok (.ifCond .eq 21, 3) := by decide +kernel
theorem dX10_plan_34 : decode cX10_plan 34 = .ok (.iload 4, 2) := by decide +kernel
theorem dX10_plan_36 : decode cX10_plan 36 = .ok (.iconst 1, 1) := by decide +kernel
theorem dX10_plan_37 : decode cX10_plan 37 = .ok (.bipush 99, 2) := by decide +kernel
theorem dX10_plan_39 : decode cX10_plan 39 = .ok (.invokestatic 136, 3) := by decide +kernel
theorem dX10_plan_42 : decode cX10_plan 42 = .ok (.ifCond .eq 10, 3) := by decide +kernel
theorem dX10_plan_45 : decode cX10_plan 45 = .ok (.aload_n 0, 1) := by decide +kernel
theorem dX10_plan_46 : decode cX10_plan 46 = .ok (.getfield 180, 3) := by decide +kernel
theorem dX10_plan_49 : decode cX10_plan 49 = .ok (.ifCond .ne 5, 3) := by decide +kernel
theorem dX10_plan_52 : decode cX10_plan 52 = .ok (.iconst (-1), 1) := by decide +kernel
theorem dX10_plan_53 : decode cX10_plan 53 = .ok (.ireturn, 1) := by decide +kernel
theorem dX10_plan_54 : decode cX10_plan 54 = .ok (.aload_n 0, 1) := by decide +kernel
theorem dX10_plan_55 : decode cX10_plan 55 = .ok (.invokevirtual 224, 3) := by decide +kernel
theorem dX10_plan_58 : decode cX10_plan 58 = .ok (.ifCond .eq 6, 3) := by decide +kernel
theorem dX10_plan_61 : decode cX10_plan 61 = .ok (.bipush (-2), 2) := by decide +kernel
theorem dX10_plan_63 : decode cX10_plan 63 = .ok (.ireturn, 1) := by decide +kernel
theorem dX10_plan_64 : decode cX10_plan 64 = .ok (.aload_n 0, 1) := by decide +kernel
theorem dX10_plan_65 : decode cX10_plan 65 = .ok (.iconst 1, 1) := by decide +kernel
theorem dX10_plan_66 : decode cX10_plan 66 = .ok (.putfield 228, 3) := by decide +kernel
theorem dX10_plan_69 : decode cX10_plan 69 = .ok (.aload_n 0, 1) := by decide +kernel
theorem dX10_plan_70 : decode cX10_plan 70 = .ok (.iconst 0, 1) := by decide +kernel
theorem dX10_plan_71 : decode cX10_plan 71 = .ok (.putfield 215, 3) := by decide +kernel
theorem dX10_plan_74 : decode cX10_plan 74 = .ok (.aload_n 0, 1) := by decide +kernel
theorem dX10_plan_75 : decode cX10_plan 75 = .ok (.iconst 0, 1) := by decide +kernel
theorem dX10_plan_76 : decode cX10_plan 76 = .ok (.putfield 231, 3) := by decide +kernel
theorem dX10_plan_79 : decode cX10_plan 79 = .ok (.iconst 0, 1) := by decide +kernel
theorem dX10_plan_80 : decode cX10_plan 80 = .ok (.istore 6, 2) := by decide +kernel
theorem dX10_plan_82 : decode cX10_plan 82 = .ok (.iload 6, 2) := by decide +kernel
theorem dX10_plan_84 : decode cX10_plan 84 = .ok (.aload_n 0, 1) := by decide +kernel
theorem dX10_plan_85 : decode cX10_plan 85 = .ok (.getfield 112, 3) := by decide +kernel
theorem dX10_plan_88 : decode cX10_plan 88 = .ok (.if_icmp .ge 117, 3) := by decide +kernel
theorem dX10_plan_91 : decode cX10_plan 91 = .ok (.aload_n 0, 1) := by decide +kernel
theorem dX10_plan_92 : decode cX10_plan 92 = .ok (.getfield 24, 3) := by decide +kernel
theorem dX10_plan_95 : decode cX10_plan 95 = .ok (.iload 6, 2) := by decide +kernel
theorem dX10_plan_97 : decode cX10_plan 97 = .ok (.baload, 1) := by decide +kernel
theorem dX10_plan_98 : decode cX10_plan 98 = .ok (.ifCond .eq 101, 3) := by decide +kernel
theorem dX10_plan_101 : decode cX10_plan 101 = .ok (.aload_n 0, 1) := by decide +kernel
theorem dX10_plan_102 : decode cX10_plan 102 = .ok (.getfield 21, 3) := by decide +kernel
theorem dX10_plan_105 : decode cX10_plan 105 = .ok (.iload 6, 2) := by decide +kernel
theorem dX10_plan_107 : decode cX10_plan 107 = .ok (.iaload, 1) := by decide +kernel
theorem dX10_plan_108 : decode cX10_plan 108 = .ok (.iload_n 1, 1) := by decide +kernel
theorem dX10_plan_109 : decode cX10_plan 109 = .ok (.if_icmp .ne 90, 3) := by decide +kernel
theorem dX10_plan_112 : decode cX10_plan 112 = .ok (.aload_n 0, 1) := by decide +kernel
theorem dX10_plan_113 : decode cX10_plan 113 = .ok (.iload 6, 2) := by decide +kernel
theorem dX10_plan_115 : decode cX10_plan 115 = .ok (.invokevirtual 192, 3) := by decide +kernel
theorem dX10_plan_118 : decode cX10_plan 118 = .ok (.ifCond .ne 6, 3) := by decide +kernel
theorem dX10_plan_121 : decode cX10_plan 121 = .ok (.goto 78, 3) := by decide +kernel
theorem dX10_plan_124 : decode cX10_plan 124 = .ok (.aload_n 0, 1) := by decide +kernel
theorem dX10_plan_125 : decode cX10_plan 125 = .ok (.getfield 215, 3) := by decide +kernel
theorem dX10_plan_128 : decode cX10_plan 128 = .ok (.istore 7, 2) := by decide +kernel
theorem dX10_plan_130 : decode cX10_plan 130 = .ok (.iload 5, 2) := by decide +kernel
theorem dX10_plan_132 : decode cX10_plan 132 = .ok (.ifCond .eq 48, 3) := by decide +kernel
theorem dX10_plan_135 : decode cX10_plan 135 = .ok (.iload 7, 2) := by decide +kernel
theorem dX10_plan_137 : decode cX10_plan 137 = .ok (.ifCond .le 43, 3) := by decide +kernel
theorem dX10_plan_140 : decode cX10_plan 140 = .ok (.aload_n 0, 1) := by decide +kernel
theorem dX10_plan_141 : decode cX10_plan 141 = .ok (.iload 6, 2) := by decide +kernel
theorem dX10_plan_143 : decode cX10_plan 143 = .ok (.aload_n 0, 1) := by decide +kernel
theorem dX10_plan_144 : decode cX10_plan 144 = .ok (.getfield 58, 3) := by decide +kernel
theorem dX10_plan_147 : decode cX10_plan 147 = .ok (.iload 7, 2) := by decide +kernel
theorem dX10_plan_149 : decode cX10_plan 149 = .ok (.iconst 1, 1) := by decide +kernel
theorem dX10_plan_150 : decode cX10_plan 150 = .ok (.isub, 1) := by decide +kernel
theorem dX10_plan_151 : decode cX10_plan 151 = .ok (.iaload, 1) := by decide +kernel
theorem dX10_plan_152 : decode cX10_plan 152 = .ok (.invokevirtual 234, 3) := by decide +kernel
theorem dX10_plan_155 : decode cX10_plan 155 = .ok (.ifCond .eq 25, 3) := by decide +kernel
theorem dX10_plan_158 : decode cX10_plan 158 = .ok (.aload_n 0, 1) := by decide +kernel
theorem dX10_plan_159 : decode cX10_plan 159 = .ok (.getfield 58, 3) := by decide +kernel
theorem dX10_plan_162 : decode cX10_plan 162 = .ok (.iload 7, 2) := by decide +kernel
theorem dX10_plan_164 : decode cX10_plan 164 = .ok (.aload_n 0, 1) := by decide +kernel
theorem dX10_plan_165 : decode cX10_plan 165 = .ok (.getfield 58, 3) := by decide +kernel
theorem dX10_plan_168 : decode cX10_plan 168 = .ok (.iload 7, 2) := by decide +kernel
theorem dX10_plan_170 : decode cX10_plan 170 = .ok (.iconst 1, 1) := by decide +kernel
theorem dX10_plan_171 : decode cX10_plan 171 = .ok (.isub, 1) := by decide +kernel
theorem dX10_plan_172 : decode cX10_plan 172 = .ok (.iaload, 1) := by decide +kernel
theorem dX10_plan_173 : decode cX10_plan 173 = .ok (.iastore, 1) := by decide +kernel
theorem dX10_plan_174 : decode cX10_plan 174 = .ok (.iinc 7 (-1), 3) := by decide +kernel
theorem dX10_plan_177 : decode cX10_plan 177 = .ok (.goto (-47), 3) := by decide +kernel
theorem dX10_plan_180 : decode cX10_plan 180 = .ok (.aload_n 0, 1) := by decide +kernel
theorem dX10_plan_181 : decode cX10_plan 181 = .ok (.getfield 58, 3) := by decide +kernel
theorem dX10_plan_184 : decode cX10_plan 184 = .ok (.iload 7, 2) := by decide +kernel
theorem dX10_plan_186 : decode cX10_plan 186 = .ok (.iload 6, 2) := by decide +kernel
theorem dX10_plan_188 : decode cX10_plan 188 = .ok (.iastore, 1) := by decide +kernel
theorem dX10_plan_189 : decode cX10_plan 189 = .ok (.aload_n 0, 1) := by decide +kernel
theorem dX10_plan_190 : decode cX10_plan 190 = .ok (.dup, 1) := by decide +kernel
theorem dX10_plan_191 : decode cX10_plan 191 = .ok (.getfield 215, 3) := by decide +kernel
theorem dX10_plan_194 : decode cX10_plan 194 = .ok (.iconst 1, 1) := by decide +kernel
theorem dX10_plan_195 : decode cX10_plan 195 = .ok (.iadd, 1) := by decide +kernel
theorem dX10_plan_196 : decode cX10_plan 196 = .ok (.putfield 215, 3) := by decide +kernel
theorem dX10_plan_199 : decode cX10_plan 199 = .ok (.iinc 6 1, 3) := by decide +kernel
theorem dX10_plan_202 : decode cX10_plan 202 = .ok (.goto (-120), 3) := by decide +kernel
theorem dX10_plan_205 : decode cX10_plan 205 = .ok (.iconst 0, 1) := by decide +kernel
theorem dX10_plan_206 : decode cX10_plan 206 = .ok (.istore 6, 2) := by decide +kernel
theorem dX10_plan_208 : decode cX10_plan 208 = .ok (.iload 6, 2) := by decide +kernel
theorem dX10_plan_210 : decode cX10_plan 210 = .ok (.aload_n 0, 1) := by decide +kernel
theorem dX10_plan_211 : decode cX10_plan 211 = .ok (.getfield 215, 3) := by decide +kernel
theorem dX10_plan_214 : decode cX10_plan 214 = .ok (.if_icmp .ge 80, 3) := by decide +kernel
theorem dX10_plan_217 : decode cX10_plan 217 = .ok (.aload_n 0, 1) := by decide +kernel
theorem dX10_plan_218 : decode cX10_plan 218 = .ok (.getfield 61, 3) := by decide +kernel
theorem dX10_plan_221 : decode cX10_plan 221 = .ok (.iload 6, 2) := by decide +kernel
theorem dX10_plan_223 : decode cX10_plan 223 = .ok (.iload_n 3, 1) := by decide +kernel
theorem dX10_plan_224 : decode cX10_plan 224 = .ok (.iload 6, 2) := by decide +kernel
theorem dX10_plan_226 : decode cX10_plan 226 = .ok (.iload 4, 2) := by decide +kernel
theorem dX10_plan_228 : decode cX10_plan 228 = .ok (.imul, 1) := by decide +kernel
theorem dX10_plan_229 : decode cX10_plan 229 = .ok (.iadd, 1) := by decide +kernel
theorem dX10_plan_230 : decode cX10_plan 230 = .ok (.iastore, 1) := by decide +kernel
theorem dX10_plan_231 : decode cX10_plan 231 = .ok (.aload_n 0, 1) := by decide +kernel
theorem dX10_plan_232 : decode cX10_plan 232 = .ok (.getfield 21, 3) := by decide +kernel
theorem dX10_plan_235 : decode cX10_plan 235 = .ok (.bipush 80, 2) := by decide +kernel
theorem dX10_plan_237 : decode cX10_plan 237 = .ok (.iload 6, 2) := by decide +kernel
theorem dX10_plan_239 : decode cX10_plan 239 = .ok (.iadd, 1) := by decide +kernel
theorem dX10_plan_240 : decode cX10_plan 240 = .ok (.iload_n 2, 1) := by decide +kernel
theorem dX10_plan_241 : decode cX10_plan 241 = .ok (.iastore, 1) := by decide +kernel
theorem dX10_plan_242 : decode cX10_plan 242 = .ok (.aload_n 0, 1) := by decide +kernel
theorem dX10_plan_243 : decode cX10_plan 243 = .ok (.iload 6, 2) := by decide +kernel
theorem dX10_plan_245 : decode cX10_plan 245 = .ok (.invokevirtual 237, 3) := by decide +kernel
theorem dX10_plan_248 : decode cX10_plan 248 = .ok (.aload_n 0, 1) := by decide +kernel
theorem dX10_plan_249 : decode cX10_plan 249 = .ok (.getfield 73, 3) := by decide +kernel
theorem dX10_plan_252 : decode cX10_plan 252 = .ok (.iload 6, 2) := by decide +kernel
theorem dX10_plan_254 : decode cX10_plan 254 = .ok (.aload_n 0, 1) := by decide +kernel
theorem dX10_plan_255 : decode cX10_plan 255 = .ok (.iload 6, 2) := by decide +kernel
theorem dX10_plan_257 : decode cX10_plan 257 = .ok (.invokevirtual 218, 3) := by decide +kernel
theorem dX10_plan_260 : decode cX10_plan 260 = .ok (.ifCond .ne 26, 3) := by decide +kernel
theorem dX10_plan_263 : decode cX10_plan 263 = .ok (.aload_n 0, 1) := by decide +kernel
theorem dX10_plan_264 : decode cX10_plan 264 = .ok (.bipush 80, 2) := by decide +kernel
theorem dX10_plan_266 : decode cX10_plan 266 = .ok (.iload 6, 2) := by decide +kernel
theorem dX10_plan_268 : decode cX10_plan 268 = .ok (.iadd, 1) := by decide +kernel
theorem dX10_plan_269 : decode cX10_plan 269 = .ok (.aload_n 0, 1) := by decide +kernel
theorem dX10_plan_270 : decode cX10_plan 270 = .ok (.getfield 58, 3) := by decide +kernel
theorem dX10_plan_273 : decode cX10_plan 273 = .ok (.iload 6, 2) := by decide +kernel
theorem dX10_plan_275 : decode cX10_plan 275 = .ok (.iaload, 1) := by decide +kernel
theorem dX10_plan_276 : decode cX10_plan 276 = .ok (.invokevirtual 104, 3) := by decide +kernel
theorem dX10_plan_279 : decode cX10_plan 279 = .ok (.ifCond .eq 7, 3) := by decide +kernel
theorem dX10_plan_282 : decode cX10_plan 282 = .ok (.iconst 1, 1) := by decide +kernel
theorem dX10_plan_283 : decode cX10_plan 283 = .ok (.goto 4, 3) := by decide +kernel
theorem dX10_plan_286 : decode cX10_plan 286 = .ok (.iconst 0, 1) := by decide +kernel
theorem dX10_plan_287 : decode cX10_plan 287 = .ok (.bastore, 1) := by decide +kernel
theorem dX10_plan_288 : decode cX10_plan 288 = .ok (.iinc 6 1, 3) := by decide +kernel
theorem dX10_plan_291 : decode cX10_plan 291 = .ok (.goto (-83), 3) := by decide +kernel
theorem dX10_plan_294 : decode cX10_plan 294 = .ok (.iconst 0, 1) := by decide +kernel
theorem dX10_plan_295 : decode cX10_plan 295 = .ok (.istore 6, 2) := by decide +kernel
theorem dX10_plan_297 : decode cX10_plan 297 = .ok (.iload 6, 2) := by decide +kernel
theorem dX10_plan_299 : decode cX10_plan 299 = .ok (.aload_n 0, 1) := by decide +kernel
theorem dX10_plan_300 : decode cX10_plan 300 = .ok (.getfield 215, 3) := by decide +kernel
theorem dX10_plan_303 : decode cX10_plan 303 = .ok (.if_icmp .ge 15, 3) := by decide +kernel
theorem dX10_plan_306 : decode cX10_plan 306 = .ok (.aload_n 0, 1) := by decide +kernel
theorem dX10_plan_307 : decode cX10_plan 307 = .ok (.iload 6, 2) := by decide +kernel
theorem dX10_plan_309 : decode cX10_plan 309 = .ok (.invokevirtual 241, 3) := by decide +kernel
theorem dX10_plan_312 : decode cX10_plan 312 = .ok (.iinc 6 1, 3) := by decide +kernel
theorem dX10_plan_315 : decode cX10_plan 315 = .ok (.goto (-18), 3) := by decide +kernel
theorem dX10_plan_318 : decode cX10_plan 318 = .ok (.aload_n 0, 1) := by decide +kernel
theorem dX10_plan_319 : decode cX10_plan 319 = .ok (.invokevirtual 244, 3) := by decide +kernel
theorem dX10_plan_322 : decode cX10_plan 322 = .ok (.aload_n 0, 1) := by decide +kernel
theorem dX10_plan_323 : decode cX10_plan 323 = .ok (.getfield 215, 3) := by decide +kernel
theorem dX10_plan_326 : decode cX10_plan 326 = .ok (.ireturn, 1) := by decide +kernel
theorem dX10_planned_0 : decode cX10_planned 0 = .ok (.aload_n 0, 1) := by decide +kernel
theorem dX10_planned_1 : decode cX10_planned 1 = .ok (.iconst 0, 1) := by decide +kernel
theorem dX10_planned_2 : decode cX10_planned 2 = .ok (.putfield 1, 3) := by decide +kernel
theorem dX10_planned_5 : decode cX10_planned 5 = .ok (.aload_n 0, 1) := by decide +kernel
theorem dX10_planned_6 : decode cX10_planned 6 = .ok (.getfield 228, 3) := by decide +kernel
theorem dX10_planned_9 : decode cX10_planned 9 = .ok (.ifCond .eq 15, 3) := by decide +kernel
theorem dX10_planned_12 : decode cX10_planned 12 = .ok (.iload_n 1, 1) := by decide +kernel
theorem dX10_planned_13 : decode cX10_planned 13 = .ok (.ifCond .lt 11, 3) := by decide +kernel
theorem dX10_planned_16 : decode cX10_planned 16 = .ok (.iload_n 1, 1) := by decide +kernel
theorem dX10_planned_17 : decode cX10_planned 17 = .ok (.aload_n 0, 1) := by decide +kernel
theorem dX10_planned_18 : decode cX10_planned 18 = .ok (.getfield 215, 3) := by decide +kernel
theorem dX10_planned_21 : decode cX10_planned 21 = .ok (.if_icmp .lt 5, 3) := by decide +kernel
theorem dX10_planned_24 : decode cX10_planned 24 = .ok (.iconst (-1), 1) := by decide +kernel
theorem dX10_planned_25 : decode cX10_planned 25 = .ok (.ireturn, 1) := by decide +kernel
theorem dX10_planned_26 : decode cX10_planned 26 = .ok (.iload_n 2, 1) := by decide +kernel
theorem dX10_planned_27 : decode cX10_planned 27 = .ok (.tableswitch 101 0 6 #[41, 48, 55, 62, 72, 79, 94], 41) := by decide +kernel
theorem dX10_planned_68 : decode cX10_planned 68 = .ok (.aload_n 0, 1) := by decide +kernel
theorem dX10_planned_69 : decode cX10_planned 69 = .ok (.getfield 58, 3) := by decide +kernel
theorem dX10_planned_72 : decode cX10_planned 72 = .ok (.iload_n 1, 1) := by decide +kernel
theorem dX10_planned_73 : decode cX10_planned 73 = .ok (.iaload, 1) := by decide +kernel
theorem dX10_planned_74 : decode cX10_planned 74 = .ok (.ireturn, 1) := by decide +kernel
theorem dX10_planned_75 : decode cX10_planned 75 = .ok (.aload_n 0, 1) := by decide +kernel
theorem dX10_planned_76 : decode cX10_planned 76 = .ok (.getfield 67, 3) := by decide +kernel
theorem dX10_planned_79 : decode cX10_planned 79 = .ok (.iload_n 1, 1) := by decide +kernel
theorem dX10_planned_80 : decode cX10_planned 80 = .ok (.iaload, 1) := by decide +kernel
theorem dX10_planned_81 : decode cX10_planned 81 = .ok (.ireturn, 1) := by decide +kernel
theorem dX10_planned_82 : decode cX10_planned 82 = .ok (.aload_n 0, 1) := by decide +kernel
theorem dX10_planned_83 : decode cX10_planned 83 = .ok (.getfield 70, 3) := by decide +kernel
theorem dX10_planned_86 : decode cX10_planned 86 = .ok (.iload_n 1, 1) := by decide +kernel
theorem dX10_planned_87 : decode cX10_planned 87 = .ok (.iaload, 1) := by decide +kernel
theorem dX10_planned_88 : decode cX10_planned 88 = .ok (.ireturn, 1) := by decide +kernel
theorem dX10_planned_89 : decode cX10_planned 89 = .ok (.aload_n 0, 1) := by decide +kernel
theorem dX10_planned_90 : decode cX10_planned 90 = .ok (.getfield 21, 3) := by decide +kernel
theorem dX10_planned_93 : decode cX10_planned 93 = .ok (.bipush 80, 2) := by decide +kernel
theorem dX10_planned_95 : decode cX10_planned 95 = .ok (.iload_n 1, 1) := by decide +kernel
theorem dX10_planned_96 : decode cX10_planned 96 = .ok (.iadd, 1) := by decide +kernel
theorem dX10_planned_97 : decode cX10_planned 97 = .ok (.iaload, 1) := by decide +kernel
theorem dX10_planned_98 : decode cX10_planned 98 = .ok (.ireturn, 1) := by decide +kernel
theorem dX10_planned_99 : decode cX10_planned 99 = .ok (.aload_n 0, 1) := by decide +kernel
theorem dX10_planned_100 : decode cX10_planned 100 = .ok (.getfield 64, 3) := by decide +kernel
theorem dX10_planned_103 : decode cX10_planned 103 = .ok (.iload_n 1, 1) := by decide +kernel
theorem dX10_planned_104 : decode cX10_planned 104 = .ok (.iaload, 1) := by decide +kernel
theorem dX10_planned_105 : decode cX10_planned 105 = .ok (.ireturn, 1) := by decide +kernel
theorem dX10_planned_106 : decode cX10_planned 106 = .ok (.aload_n 0, 1) := by decide +kernel
theorem dX10_planned_107 : decode cX10_planned 107 = .ok (.getfield 73, 3) := by decide +kernel
theorem dX10_planned_110 : decode cX10_planned 110 = .ok (.iload_n 1, 1) := by decide +kernel
theorem dX10_planned_111 : decode cX10_planned 111 = .ok (.baload, 1) := by decide +kernel
theorem dX10_planned_112 : decode cX10_planned 112 = .ok (.ifCond .eq 7, 3) := by decide +kernel
theorem dX10_planned_115 : decode cX10_planned 115 = .ok (.iconst 1, 1) := by decide +kernel
theorem dX10_planned_116 : decode cX10_planned 116 = .ok (.goto 4, 3) := by decide +kernel
theorem dX10_planned_119 : decode cX10_planned 119 = .ok (.iconst 0, 1) := by decide +kernel
theorem dX10_planned_120 : decode cX10_planned 120 = .ok (.ireturn, 1) := by decide +kernel
theorem dX10_planned_121 : decode cX10_planned 121 = .ok (.aload_n 0, 1) := by decide +kernel
theorem dX10_planned_122 : decode cX10_planned 122 = .ok (.getfield 61, 3) := by decide +kernel
theorem dX10_planned_125 : decode cX10_planned 125 = .ok (.iload_n 1, 1) := by decide +kernel
theorem dX10_planned_126 : decode cX10_planned 126 = .ok (.iaload, 1) := by decide +kernel
theorem dX10_planned_127 : decode cX10_planned 127 = .ok (.ireturn, 1) := by decide +kernel
theorem dX10_planned_128 : decode cX10_planned 128 = .ok (.iconst (-1), 1) := by decide +kernel
theorem dX10_planned_129 : decode cX10_planned 129 = .ok (.ireturn, 1) := by decide +kernel
theorem dX10_newName_0 : decode cX10_newName 0 = .ok (.aload_n 0, 1) := by decide +kernel
theorem dX10_newName_1 : decode cX10_newName 1 = .ok (.iconst 0, 1) := by decide +kernel
theorem dX10_newName_2 : decode cX10_newName 2 = .ok (.putfield 1, 3) := by decide +kernel
theorem dX10_newName_5 : decode cX10_newName 5 = .ok (.aload_n 0, 1) := by decide +kernel
theorem dX10_newName_6 : decode cX10_newName 6 = .ok (.getfield 228, 3) := by decide +kernel
theorem dX10_newName_9 : decode cX10_newName 9 = .ok (.ifCond .eq 32, 3) := by decide +kernel
theorem dX10_newName_12 : decode cX10_newName 12 = .ok (.iload_n 1, 1) := by decide +kernel
theorem dX10_newName_13 : decode cX10_newName 13 = .ok (.ifCond .lt 28, 3) := by decide +kernel
theorem dX10_newName_16 : decode cX10_newName 16 = .ok (.iload_n 1, 1) := by decide +kernel
theorem dX10_newName_17 : decode cX10_newName 17 = .ok (.aload_n 0, 1) := by decide +kernel
theorem dX10_newName_18 : decode cX10_newName 18 = .ok (.getfield 215, 3) := by decide +kernel
theorem dX10_newName_21 : decode cX10_newName 21 = .ok (.if_icmp .ge 20, 3) := by decide +kernel
theorem dX10_newName_24 : decode cX10_newName 24 = .ok (.iload_n 2, 1) := by decide +kernel
theorem dX10_newName_25 : decode cX10_newName 25 = .ok (.ifCond .lt 16, 3) := by decide +kernel
theorem dX10_newName_28 : decode cX10_newName 28 = .ok (.iload_n 2, 1) := by decide +kernel
theorem dX10_newName_29 : decode cX10_newName 29 = .ok (.aload_n 0, 1) := by decide +kernel
theorem dX10_newName_30 : decode cX10_newName 30 = .ok (.getfield 17, 3) := by decide +kernel
theorem dX10_newName_33 : decode cX10_newName 33 = .ok (.bipush 80, 2) := by decide +kernel
theorem dX10_newName_35 : decode cX10_newName 35 = .ok (.iload_n 1, 1) := by decide +kernel
theorem dX10_newName_36 : decode cX10_newName 36 = .ok (.iadd, 1) := by decide +kernel
theorem dX10_newName_37 : decode cX10_newName 37 = .ok (.iaload, 1) := by decide +kernel
theorem dX10_newName_38 : decode cX10_newName 38 = .ok (.if_icmp .lt 5, 3) := by decide +kernel
theorem dX10_newName_41 : decode cX10_newName 41 = .ok (.iconst (-1), 1) := by decide +kernel
theorem dX10_newName_42 : decode cX10_newName 42 = .ok (.ireturn, 1) := by decide +kernel
theorem dX10_newName_43 : decode cX10_newName 43 = .ok (.aload_n 0, 1) := by decide +kernel
theorem dX10_newName_44 : decode cX10_newName 44 = .ok (.getfield 13, 3) := by decide +kernel
theorem dX10_newName_47 : decode cX10_newName 47 = .ok (.bipush 12, 2) := by decide +kernel
theorem dX10_newName_49 : decode cX10_newName 49 = .ok (.bipush 80, 2) := by decide +kernel
theorem dX10_newName_51 : decode cX10_newName 51 = .ok (.iload_n 1, 1) := by decide +kernel
theorem dX10_newName_52 : decode cX10_newName 52 = .ok (.iadd, 1) := by decide +kernel
theorem dX10_newName_53 : decode cX10_newName 53 = .ok (.imul, 1) := by decide +kernel
theorem dX10_newName_54 : decode cX10_newName 54 = .ok (.iload_n 2, 1) := by decide +kernel
theorem dX10_newName_55 : decode cX10_newName 55 = .ok (.iadd, 1) := by decide +kernel
theorem dX10_newName_56 : decode cX10_newName 56 = .ok (.baload, 1) := by decide +kernel
theorem dX10_newName_57 : decode cX10_newName 57 = .ok (.ireturn, 1) := by decide +kernel
theorem dX10_troubles_0 : decode cX10_troubles 0 = .ok (.iconst 0, 1) := by decide +kernel
theorem dX10_troubles_1 : decode cX10_troubles 1 = .ok (.istore_n 1, 1) := by decide +kernel
theorem dX10_troubles_2 : decode cX10_troubles 2 = .ok (.iconst 0, 1) := by decide +kernel
theorem dX10_troubles_3 : decode cX10_troubles 3 = .ok (.istore_n 2, 1) := by decide +kernel
theorem dX10_troubles_4 : decode cX10_troubles 4 = .ok (.iload_n 2, 1) := by decide +kernel
theorem dX10_troubles_5 : decode cX10_troubles 5 = .ok (.aload_n 0, 1) := by decide +kernel
theorem dX10_troubles_6 : decode cX10_troubles 6 = .ok (.getfield 215, 3) := by decide +kernel
theorem dX10_troubles_9 : decode cX10_troubles 9 = .ok (.if_icmp .ge 28, 3) := by decide +kernel
theorem dX10_troubles_12 : decode cX10_troubles 12 = .ok (.aload_n 0, 1) := by decide +kernel
theorem dX10_troubles_13 : decode cX10_troubles 13 = .ok (.getfield 228, 3) := by decide +kernel
theorem dX10_troubles_16 : decode cX10_troubles 16 = .ok (.ifCond .eq 21, 3) := by decide +kernel
theorem dX10_troubles_19 : decode cX10_troubles 19 = .ok (.aload_n 0, 1) := by decide +kernel
theorem dX10_troubles_20 : decode cX10_troubles 20 = .ok (.getfield 67, 3) := by decide +kernel
theorem dX10_troubles_23 : decode cX10_troubles 23 = .ok (.iload_n 2, 1) := by decide +kernel
theorem dX10_troubles_24 : decode cX10_troubles 24 = .ok (.iaload, 1) := by decide +kernel
theorem dX10_troubles_25 : decode cX10_troubles 25 = .ok (.ifCond .eq 6, 3) := by decide +kernel
theorem dX10_troubles_28 : decode cX10_troubles 28 = .ok (.iinc 1 1, 3) := by decide +kernel
theorem dX10_troubles_31 : decode cX10_troubles 31 = .ok (.iinc 2 1, 3) := by decide +kernel
theorem dX10_troubles_34 : decode cX10_troubles 34 = .ok (.goto (-30), 3) := by decide +kernel
theorem dX10_troubles_37 : decode cX10_troubles 37 = .ok (.iload_n 1, 1) := by decide +kernel
theorem dX10_troubles_38 : decode cX10_troubles 38 = .ok (.ireturn, 1) := by decide +kernel
theorem dX10_isUnderWay_0 : decode cX10_isUnderWay 0 = .ok (.aload_n 0, 1) := by decide +kernel
theorem dX10_isUnderWay_1 : decode cX10_isUnderWay 1 = .ok (.getfield 228, 3) := by decide +kernel
theorem dX10_isUnderWay_4 : decode cX10_isUnderWay 4 = .ok (.ifCond .eq 25, 3) := by decide +kernel
theorem dX10_isUnderWay_7 : decode cX10_isUnderWay 7 = .ok (.aload_n 0, 1) := by decide +kernel
theorem dX10_isUnderWay_8 : decode cX10_isUnderWay 8 = .ok (.getfield 231, 3) := by decide +kernel
theorem dX10_isUnderWay_11 : decode cX10_isUnderWay 11 = .ok (.ifCond .le 18, 3) := by decide +kernel
theorem dX10_isUnderWay_14 : decode cX10_isUnderWay 14 = .ok (.aload_n 0, 1) := by decide +kernel
theorem dX10_isUnderWay_15 : decode cX10_isUnderWay 15 = .ok (.getfield 231, 3) := by decide +kernel
theorem dX10_isUnderWay_18 : decode cX10_isUnderWay 18 = .ok (.aload_n 0, 1) := by decide +kernel
theorem dX10_isUnderWay_19 : decode cX10_isUnderWay 19 = .ok (.getfield 247, 3) := by decide +kernel
theorem dX10_isUnderWay_22 : decode cX10_isUnderWay 22 = .ok (.if_icmp .ge 7, 3) := by decide +kernel
theorem dX10_isUnderWay_25 : decode cX10_isUnderWay 25 = .ok (.iconst 1, 1) := by decide +kernel
theorem dX10_isUnderWay_26 : decode cX10_isUnderWay 26 = .ok (.goto 4, 3) := by decide +kernel
theorem dX10_isUnderWay_29 : decode cX10_isUnderWay 29 = .ok (.iconst 0, 1) := by decide +kernel
theorem dX10_isUnderWay_30 : decode cX10_isUnderWay 30 = .ok (.ireturn, 1) := by decide +kernel
theorem dX10_keeps_0 : decode cX10_keeps 0 = .ok (.iconst 2, 1) := by decide +kernel
theorem dX10_keeps_1 : decode cX10_keeps 1 = .ok (.iload_n 1, 1) := by decide +kernel
theorem dX10_keeps_2 : decode cX10_keeps 2 = .ok (.imul, 1) := by decide +kernel
theorem dX10_keeps_3 : decode cX10_keeps 3 = .ok (.iload_n 2, 1) := by decide +kernel
theorem dX10_keeps_4 : decode cX10_keeps 4 = .ok (.iadd, 1) := by decide +kernel
theorem dX10_keeps_5 : decode cX10_keeps 5 = .ok (.istore 4, 2) := by decide +kernel
theorem dX10_keeps_7 : decode cX10_keeps 7 = .ok (.aload_n 0, 1) := by decide +kernel
theorem dX10_keeps_8 : decode cX10_keeps 8 = .ok (.getfield 91, 3) := by decide +kernel
theorem dX10_keeps_11 : decode cX10_keeps 11 = .ok (.iload 4, 2) := by decide +kernel
theorem dX10_keeps_13 : decode cX10_keeps 13 = .ok (.aload_n 0, 1) := by decide +kernel
theorem dX10_keeps_14 : decode cX10_keeps 14 = .ok (.getfield 21, 3) := by decide +kernel
theorem dX10_keeps_17 : decode cX10_keeps 17 = .ok (.iload_n 3, 1) := by decide +kernel
theorem dX10_keeps_18 : decode cX10_keeps 18 = .ok (.iaload, 1) := by decide +kernel
theorem dX10_keeps_19 : decode cX10_keeps 19 = .ok (.iastore, 1) := by decide +kernel
theorem dX10_keeps_20 : decode cX10_keeps 20 = .ok (.aload_n 0, 1) := by decide +kernel
theorem dX10_keeps_21 : decode cX10_keeps 21 = .ok (.getfield 88, 3) := by decide +kernel
theorem dX10_keeps_24 : decode cX10_keeps 24 = .ok (.iload 4, 2) := by decide +kernel
theorem dX10_keeps_26 : decode cX10_keeps 26 = .ok (.aload_n 0, 1) := by decide +kernel
theorem dX10_keeps_27 : decode cX10_keeps 27 = .ok (.getfield 17, 3) := by decide +kernel
theorem dX10_keeps_30 : decode cX10_keeps 30 = .ok (.iload_n 3, 1) := by decide +kernel
theorem dX10_keeps_31 : decode cX10_keeps 31 = .ok (.iaload, 1) := by decide +kernel
theorem dX10_keeps_32 : decode cX10_keeps 32 = .ok (.iastore, 1) := by decide +kernel
theorem dX10_keeps_33 : decode cX10_keeps 33 = .ok (.iconst 0, 1) := by decide +kernel
theorem dX10_keeps_34 : decode cX10_keeps 34 = .ok (.istore 5, 2) := by decide +kernel
theorem dX10_keeps_36 : decode cX10_keeps 36 = .ok (.iload 5, 2) := by decide +kernel
theorem dX10_keeps_38 : decode cX10_keeps 38 = .ok (.aload_n 0, 1) := by decide +kernel
theorem dX10_keeps_39 : decode cX10_keeps 39 = .ok (.getfield 17, 3) := by decide +kernel
theorem dX10_keeps_42 : decode cX10_keeps 42 = .ok (.iload_n 3, 1) := by decide +kernel
theorem dX10_keeps_43 : decode cX10_keeps 43 = .ok (.iaload, 1) := by decide +kernel
theorem dX10_keeps_44 : decode cX10_keeps 44 = .ok (.if_icmp .ge 34, 3) := by decide +kernel
theorem dX10_keeps_47 : decode cX10_keeps 47 = .ok (.aload_n 0, 1) := by decide +kernel
theorem dX10_keeps_48 : decode cX10_keeps 48 = .ok (.getfield 85, 3) := by decide +kernel
theorem dX10_keeps_51 : decode cX10_keeps 51 = .ok (.bipush 12, 2) := by decide +kernel
theorem dX10_keeps_53 : decode cX10_keeps 53 = .ok (.iload 4, 2) := by decide +kernel
theorem dX10_keeps_55 : decode cX10_keeps 55 = .ok (.imul, 1) := by decide +kernel
theorem dX10_keeps_56 : decode cX10_keeps 56 = .ok (.iload 5, 2) := by decide +kernel
theorem dX10_keeps_58 : decode cX10_keeps 58 = .ok (.iadd, 1) := by decide +kernel
theorem dX10_keeps_59 : decode cX10_keeps 59 = .ok (.aload_n 0, 1) := by decide +kernel
theorem dX10_keeps_60 : decode cX10_keeps 60 = .ok (.getfield 13, 3) := by decide +kernel
theorem dX10_keeps_63 : decode cX10_keeps 63 = .ok (.bipush 12, 2) := by decide +kernel
theorem dX10_keeps_65 : decode cX10_keeps 65 = .ok (.iload_n 3, 1) := by decide +kernel
theorem dX10_keeps_66 : decode cX10_keeps 66 = .ok (.imul, 1) := by decide +kernel
theorem dX10_keeps_67 : decode cX10_keeps 67 = .ok (.iload 5, 2) := by decide +kernel
theorem dX10_keeps_69 : decode cX10_keeps 69 = .ok (.iadd, 1) := by decide +kernel
theorem dX10_keeps_70 : decode cX10_keeps 70 = .ok (.baload, 1) := by decide +kernel
theorem dX10_keeps_71 : decode cX10_keeps 71 = .ok (.bastore, 1) := by decide +kernel
theorem dX10_keeps_72 : decode cX10_keeps 72 = .ok (.iinc 5 1, 3) := by decide +kernel
theorem dX10_keeps_75 : decode cX10_keeps 75 = .ok (.goto (-39), 3) := by decide +kernel
theorem dX10_keeps_78 : decode cX10_keeps 78 = .ok (.return_, 1) := by decide +kernel
theorem dX10_lays_0 : decode cX10_lays 0 = .ok (.iconst 2, 1) := by decide +kernel
theorem dX10_lays_1 : decode cX10_lays 1 = .ok (.iload_n 1, 1) := by decide +kernel
theorem dX10_lays_2 : decode cX10_lays 2 = .ok (.imul, 1) := by decide +kernel
theorem dX10_lays_3 : decode cX10_lays 3 = .ok (.iload_n 2, 1) := by decide +kernel
theorem dX10_lays_4 : decode cX10_lays 4 = .ok (.iadd, 1) := by decide +kernel
theorem dX10_lays_5 : decode cX10_lays 5 = .ok (.istore_n 3, 1) := by decide +kernel
theorem dX10_lays_6 : decode cX10_lays 6 = .ok (.aload_n 0, 1) := by decide +kernel
theorem dX10_lays_7 : decode cX10_lays 7 = .ok (.getfield 21, 3) := by decide +kernel
theorem dX10_lays_10 : decode cX10_lays 10 = .ok (.bipush 70, 2) := by decide +kernel
theorem dX10_lays_12 : decode cX10_lays 12 = .ok (.aload_n 0, 1) := by decide +kernel
theorem dX10_lays_13 : decode cX10_lays 13 = .ok (.getfield 91, 3) := by decide +kernel
theorem dX10_lays_16 : decode cX10_lays 16 = .ok (.iload_n 3, 1) := by decide +kernel
theorem dX10_lays_17 : decode cX10_lays 17 = .ok (.iaload, 1) := by decide +kernel
theorem dX10_lays_18 : decode cX10_lays 18 = .ok (.iastore, 1) := by decide +kernel
theorem dX10_lays_19 : decode cX10_lays 19 = .ok (.aload_n 0, 1) := by decide +kernel
theorem dX10_lays_20 : decode cX10_lays 20 = .ok (.getfield 17, 3) := by decide +kernel
theorem dX10_lays_23 : decode cX10_lays 23 = .ok (.bipush 70, 2) := by decide +kernel
theorem dX10_lays_25 : decode cX10_lays 25 = .ok (.aload_n 0, 1) := by decide +kernel
theorem dX10_lays_26 : decode cX10_lays 26 = .ok (.getfield 88, 3) := by decide +kernel
theorem dX10_lays_29 : decode cX10_lays 29 = .ok (.iload_n 3, 1) := by decide +kernel
theorem dX10_lays_30 : decode cX10_lays 30 = .ok (.iaload, 1) := by decide +kernel
theorem dX10_lays_31 : decode cX10_lays 31 = .ok (.iastore, 1) := by decide +kernel
theorem dX10_lays_32 : decode cX10_lays 32 = .ok (.iconst 0, 1) := by decide +kernel
theorem dX10_lays_33 : decode cX10_lays 33 = .ok (.istore 4, 2) := by decide +kernel
theorem dX10_lays_35 : decode cX10_lays 35 = .ok (.iload 4, 2) := by decide +kernel
theorem dX10_lays_37 : decode cX10_lays 37 = .ok (.aload_n 0, 1) := by decide +kernel
theorem dX10_lays_38 : decode cX10_lays 38 = .ok (.getfield 88, 3) := by decide +kernel
theorem dX10_lays_41 : decode cX10_lays 41 = .ok (.iload_n 3, 1) := by decide +kernel
theorem dX10_lays_42 : decode cX10_lays 42 = .ok (.iaload, 1) := by decide +kernel
theorem dX10_lays_43 : decode cX10_lays 43 = .ok (.if_icmp .ge 32, 3) := by decide +kernel
theorem dX10_lays_46 : decode cX10_lays 46 = .ok (.aload_n 0, 1) := by decide +kernel
theorem dX10_lays_47 : decode cX10_lays 47 = .ok (.getfield 13, 3) := by decide +kernel
theorem dX10_lays_50 : decode cX10_lays 50 = .ok (.sipush 840, 3) := by decide +kernel
theorem dX10_lays_53 : decode cX10_lays 53 = .ok (.iload 4, 2) := by decide +kernel
theorem dX10_lays_55 : decode cX10_lays 55 = .ok (.iadd, 1) := by decide +kernel
theorem dX10_lays_56 : decode cX10_lays 56 = .ok (.aload_n 0, 1) := by decide +kernel
theorem dX10_lays_57 : decode cX10_lays 57 = .ok (.getfield 85, 3) := by decide +kernel
theorem dX10_lays_60 : decode cX10_lays 60 = .ok (.bipush 12, 2) := by decide +kernel
theorem dX10_lays_62 : decode cX10_lays 62 = .ok (.iload_n 3, 1) := by decide +kernel
theorem dX10_lays_63 : decode cX10_lays 63 = .ok (.imul, 1) := by decide +kernel
theorem dX10_lays_64 : decode cX10_lays 64 = .ok (.iload 4, 2) := by decide +kernel
theorem dX10_lays_66 : decode cX10_lays 66 = .ok (.iadd, 1) := by decide +kernel
theorem dX10_lays_67 : decode cX10_lays 67 = .ok (.baload, 1) := by decide +kernel
theorem dX10_lays_68 : decode cX10_lays 68 = .ok (.bastore, 1) := by decide +kernel
theorem dX10_lays_69 : decode cX10_lays 69 = .ok (.iinc 4 1, 3) := by decide +kernel
theorem dX10_lays_72 : decode cX10_lays 72 = .ok (.goto (-37), 3) := by decide +kernel
theorem dX10_lays_75 : decode cX10_lays 75 = .ok (.return_, 1) := by decide +kernel
set_option maxRecDepth 20000 in
theorem ggX10_isClear_X10_isAlike : GoodIn wsX10_isClear wsX10_isAlike := goodIn_r _ [7, 8, 9, 10, 11, 12, 13, 14, 6, 15, 16, 17, 18, 19, 20, 21, 22, 23, 24, 25, 26, 27, 28, 29, 30, 31, 32, 33, 34, 35, 36, 37, 38, 39, 40, 41, 42, 43, 44, 45, 46, 47, 48, 49, 50, 51, 52, 53, 54, 55, 56, 57, 58, 59, 60, 61, 62] (by decide +kernel) (by decide +kernel)
set_option maxRecDepth 20000 in
theorem gX10_isClear_X10_isAlike : GoodIn wsX10_isClear (wsV RX10 115 RX10 yX10_isAlike wsX10_isAlike) := goodIn_app (goodIn_of _ (by decide +kernel)) ggX10_isClear_X10_isAlike
theorem dX10_isClear_0 : decode cX10_isClear 0 = .ok (.iconst 0, 1) := by decide +kernel
theorem dX10_isClear_1 : decode cX10_isClear 1 = .ok (.istore_n 3, 1) := by decide +kernel
theorem dX10_isClear_2 : decode cX10_isClear 2 = .ok (.iload_n 3, 1) := by decide +kernel
theorem dX10_isClear_3 : decode cX10_isClear 3 = .ok (.aload_n 0, 1) := by decide +kernel
theorem dX10_isClear_4 : decode cX10_isClear 4 = .ok (.getfield 112, 3) := by decide +kernel
theorem dX10_isClear_7 : decode cX10_isClear 7 = .ok (.if_icmp .ge 37, 3) := by decide +kernel
theorem dX10_isClear_10 : decode cX10_isClear 10 = .ok (.iload_n 3, 1) := by decide +kernel
theorem dX10_isClear_11 : decode cX10_isClear 11 = .ok (.iload_n 1, 1) := by decide +kernel
theorem dX10_isClear_12 : decode cX10_isClear 12 = .ok (.if_icmp .eq 26, 3) := by decide +kernel
theorem dX10_isClear_15 : decode cX10_isClear 15 = .ok (.aload_n 0, 1) := by decide +kernel
theorem dX10_isClear_16 : decode cX10_isClear 16 = .ok (.getfield 24, 3) := by decide +kernel
theorem dX10_isClear_19 : decode cX10_isClear 19 = .ok (.iload_n 3, 1) := by decide +kernel
theorem dX10_isClear_20 : decode cX10_isClear 20 = .ok (.baload, 1) := by decide +kernel
theorem dX10_isClear_21 : decode cX10_isClear 21 = .ok (.ifCond .eq 17, 3) := by decide +kernel
theorem dX10_isClear_24 : decode cX10_isClear 24 = .ok (.aload_n 0, 1) := by decide +kernel
theorem dX10_isClear_25 : decode cX10_isClear 25 = .ok (.bipush 120, 2) := by decide +kernel
theorem dX10_isClear_27 : decode cX10_isClear 27 = .ok (.iload_n 3, 1) := by decide +kernel
theorem dX10_isClear_28 : decode cX10_isClear 28 = .ok (.iadd, 1) := by decide +kernel
theorem dX10_isClear_29 : decode cX10_isClear 29 = .ok (.iload_n 2, 1) := by decide +kernel
theorem dX10_isClear_30 : decode cX10_isClear 30 = .ok (.invokevirtual 115, 3) := by decide +kernel
theorem dX10_isClear_33 : decode cX10_isClear 33 = .ok (.ifCond .eq 5, 3) := by decide +kernel
theorem dX10_isClear_36 : decode cX10_isClear 36 = .ok (.iconst 0, 1) := by decide +kernel
theorem dX10_isClear_37 : decode cX10_isClear 37 = .ok (.ireturn, 1) := by decide +kernel
theorem dX10_isClear_38 : decode cX10_isClear 38 = .ok (.iinc 3 1, 3) := by decide +kernel
theorem dX10_isClear_41 : decode cX10_isClear 41 = .ok (.goto (-39), 3) := by decide +kernel
theorem dX10_isClear_44 : decode cX10_isClear 44 = .ok (.iconst 1, 1) := by decide +kernel
theorem dX10_isClear_45 : decode cX10_isClear 45 = .ok (.ireturn, 1) := by decide +kernel
set_option maxRecDepth 20000 in
theorem ggX10_next_X10_isClear : GoodIn wsX10_next wsX10_isClear := goodIn_r _ [10, 11, 12, 13, 14, 15, 9, 16, 17, 18, 19, 20, 21, 22, 23, 24, 25, 26, 27, 28, 29, 30, 31, 32, 33, 34, 35, 36, 37, 38, 39, 40, 41, 42, 43, 44, 45, 46, 47, 48, 49, 50, 51, 52, 53, 54, 55, 56, 57, 58, 59, 60, 61, 62, 63, 64, 65, 66, 67, 68, 69, 70, 71] (by decide +kernel) (by decide +kernel)
set_option maxRecDepth 20000 in
theorem gX10_next_X10_isClear : GoodIn wsX10_next (wsV RX10 250 RX10 yX10_isClear wsX10_isClear) := goodIn_app (goodIn_of _ (by decide +kernel)) ggX10_next_X10_isClear
theorem dX10_next_0 : decode cX10_next 0 = .ok (.iconst (-1), 1) := by decide +kernel
theorem dX10_next_1 : decode cX10_next 1 = .ok (.istore_n 2, 1) := by decide +kernel
theorem dX10_next_2 : decode cX10_next 2 = .ok (.iconst 0, 1) := by decide +kernel
theorem dX10_next_3 : decode cX10_next 3 = .ok (.istore_n 3, 1) := by decide +kernel
theorem dX10_next_4 : decode cX10_next 4 = .ok (.iload_n 3, 1) := by decide +kernel
theorem dX10_next_5 : decode cX10_next 5 = .ok (.aload_n 0, 1) := by decide +kernel
theorem dX10_next_6 : decode cX10_next 6 = .ok (.getfield 215, 3) := by decide +kernel
theorem dX10_next_9 : decode cX10_next 9 = .ok (.if_icmp .ge 99, 3) := by decide +kernel
theorem dX10_next_12 : decode cX10_next 12 = .ok (.aload_n 0, 1) := by decide +kernel
theorem dX10_next_13 : decode cX10_next 13 = .ok (.getfield 73, 3) := by decide +kernel
theorem dX10_next_16 : decode cX10_next 16 = .ok (.iload_n 3, 1) := by decide +kernel
theorem dX10_next_17 : decode cX10_next 17 = .ok (.baload, 1) := by decide +kernel
theorem dX10_next_18 : decode cX10_next 18 = .ok (.ifCond .ne 84, 3) := by decide +kernel
theorem dX10_next_21 : decode cX10_next 21 = .ok (.aload_n 0, 1) := by decide +kernel
theorem dX10_next_22 : decode cX10_next 22 = .ok (.getfield 97, 3) := by decide +kernel
theorem dX10_next_25 : decode cX10_next 25 = .ok (.iload_n 3, 1) := by decide +kernel
theorem dX10_next_26 : decode cX10_next 26 = .ok (.baload, 1) := by decide +kernel
theorem dX10_next_27 : decode cX10_next 27 = .ok (.ifCond .eq 6, 3) := by decide +kernel
theorem dX10_next_30 : decode cX10_next 30 = .ok (.goto 72, 3) := by decide +kernel
theorem dX10_next_33 : decode cX10_next 33 = .ok (.iload_n 1, 1) := by decide +kernel
theorem dX10_next_34 : decode cX10_next 34 = .ok (.ifCond .eq 25, 3) := by decide +kernel
theorem dX10_next_37 : decode cX10_next 37 = .ok (.aload_n 0, 1) := by decide +kernel
theorem dX10_next_38 : decode cX10_next 38 = .ok (.getfield 94, 3) := by decide +kernel
theorem dX10_next_41 : decode cX10_next 41 = .ok (.aload_n 0, 1) := by decide +kernel
theorem dX10_next_42 : decode cX10_next 42 = .ok (.getfield 58, 3) := by decide +kernel
theorem dX10_next_45 : decode cX10_next 45 = .ok (.iload_n 3, 1) := by decide +kernel
theorem dX10_next_46 : decode cX10_next 46 = .ok (.iaload, 1) := by decide +kernel
theorem dX10_next_47 : decode cX10_next 47 = .ok (.baload, 1) := by decide +kernel
theorem dX10_next_48 : decode cX10_next 48 = .ok (.ifCond .ne 7, 3) := by decide +kernel
theorem dX10_next_51 : decode cX10_next 51 = .ok (.iconst 1, 1) := by decide +kernel
theorem dX10_next_52 : decode cX10_next 52 = .ok (.goto 21, 3) := by decide +kernel
theorem dX10_next_55 : decode cX10_next 55 = .ok (.iconst 0, 1) := by decide +kernel
theorem dX10_next_56 : decode cX10_next 56 = .ok (.goto 17, 3) := by decide +kernel
theorem dX10_next_59 : decode cX10_next 59 = .ok (.aload_n 0, 1) := by decide +kernel
theorem dX10_next_60 : decode cX10_next 60 = .ok (.aload_n 0, 1) := by decide +kernel
theorem dX10_next_61 : decode cX10_next 61 = .ok (.getfield 58, 3) := by decide +kernel
theorem dX10_next_64 : decode cX10_next 64 = .ok (.iload_n 3, 1) := by decide +kernel
theorem dX10_next_65 : decode cX10_next 65 = .ok (.iaload, 1) := by decide +kernel
theorem dX10_next_66 : decode cX10_next 66 = .ok (.bipush 80, 2) := by decide +kernel
theorem dX10_next_68 : decode cX10_next 68 = .ok (.iload_n 3, 1) := by decide +kernel
theorem dX10_next_69 : decode cX10_next 69 = .ok (.iadd, 1) := by decide +kernel
theorem dX10_next_70 : decode cX10_next 70 = .ok (.invokevirtual 250, 3) := by decide +kernel
theorem dX10_next_73 : decode cX10_next 73 = .ok (.istore 4, 2) := by decide +kernel
theorem dX10_next_75 : decode cX10_next 75 = .ok (.iload 4, 2) := by decide +kernel
theorem dX10_next_77 : decode cX10_next 77 = .ok (.ifCond .eq 25, 3) := by decide +kernel
theorem dX10_next_80 : decode cX10_next 80 = .ok (.iload_n 2, 1) := by decide +kernel
theorem dX10_next_81 : decode cX10_next 81 = .ok (.iconst (-1), 1) := by decide +kernel
theorem dX10_next_82 : decode cX10_next 82 = .ok (.if_icmp .eq 18, 3) := by decide +kernel
theorem dX10_next_85 : decode cX10_next 85 = .ok (.aload_n 0, 1) := by decide +kernel
theorem dX10_next_86 : decode cX10_next 86 = .ok (.getfield 58, 3) := by decide +kernel
theorem dX10_next_89 : decode cX10_next 89 = .ok (.iload_n 3, 1) := by decide +kernel
theorem dX10_next_90 : decode cX10_next 90 = .ok (.iaload, 1) := by decide +kernel
theorem dX10_next_91 : decode cX10_next 91 = .ok (.aload_n 0, 1) := by decide +kernel
