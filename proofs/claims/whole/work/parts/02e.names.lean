theorem dX4_withState_0 : decode cX4_withState 0 = .ok (.aload_n 0, 1) := by decide +kernel
theorem dX4_withState_1 : decode cX4_withState 1 = .ok (.getfield 7, 3) := by decide +kernel
theorem dX4_withState_4 : decode cX4_withState 4 = .ok (.iload_n 1, 1) := by decide +kernel
theorem dX4_withState_5 : decode cX4_withState 5 = .ok (.iaload, 1) := by decide +kernel
theorem dX4_withState_6 : decode cX4_withState 6 = .ok (.tableswitch 257 16 24 #[50, 57, 64, 122, 157, 166, 173, 213, 228], 50) := by decide +kernel
theorem dX4_withState_56 : decode cX4_withState 56 = .ok (.aload_n 0, 1) := by decide +kernel
theorem dX4_withState_57 : decode cX4_withState 57 = .ok (.getfield 28, 3) := by decide +kernel
theorem dX4_withState_60 : decode cX4_withState 60 = .ok (.iload_n 1, 1) := by decide +kernel
theorem dX4_withState_61 : decode cX4_withState 61 = .ok (.iaload, 1) := by decide +kernel
theorem dX4_withState_62 : decode cX4_withState 62 = .ok (.ireturn, 1) := by decide +kernel
theorem dX4_withState_63 : decode cX4_withState 63 = .ok (.aload_n 0, 1) := by decide +kernel
theorem dX4_withState_64 : decode cX4_withState 64 = .ok (.iload_n 1, 1) := by decide +kernel
theorem dX4_withState_65 : decode cX4_withState 65 = .ok (.iload_n 2, 1) := by decide +kernel
theorem dX4_withState_66 : decode cX4_withState 66 = .ok (.invokevirtual 103, 3) := by decide +kernel
theorem dX4_withState_69 : decode cX4_withState 69 = .ok (.ireturn, 1) := by decide +kernel
theorem dX4_withState_70 : decode cX4_withState 70 = .ok (.aload_n 0, 1) := by decide +kernel
theorem dX4_withState_71 : decode cX4_withState 71 = .ok (.getfield 28, 3) := by decide +kernel
theorem dX4_withState_74 : decode cX4_withState 74 = .ok (.iload_n 1, 1) := by decide +kernel
theorem dX4_withState_75 : decode cX4_withState 75 = .ok (.iload_n 3, 1) := by decide +kernel
theorem dX4_withState_76 : decode cX4_withState 76 = .ok (.ifCond .eq 7, 3) := by decide +kernel
theorem dX4_withState_79 : decode cX4_withState 79 = .ok (.iconst 0, 1) := by decide +kernel
theorem dX4_withState_80 : decode cX4_withState 80 = .ok (.goto 33, 3) := by decide +kernel
theorem dX4_withState_83 : decode cX4_withState 83 = .ok (.iload_n 2, 1) := by decide +kernel
theorem dX4_withState_84 : decode cX4_withState 84 = .ok (.ifCond .eq 23, 3) := by decide +kernel
theorem dX4_withState_87 : decode cX4_withState 87 = .ok (.aload_n 0, 1) := by decide +kernel
theorem dX4_withState_88 : decode cX4_withState 88 = .ok (.getfield 31, 3) := by decide +kernel
theorem dX4_withState_91 : decode cX4_withState 91 = .ok (.iload_n 1, 1) := by decide +kernel
theorem dX4_withState_92 : decode cX4_withState 92 = .ok (.iaload, 1) := by decide +kernel
theorem dX4_withState_93 : decode cX4_withState 93 = .ok (.ifCond .ne 14, 3) := by decide +kernel
theorem dX4_withState_96 : decode cX4_withState 96 = .ok (.aload_n 0, 1) := by decide +kernel
theorem dX4_withState_97 : decode cX4_withState 97 = .ok (.getfield 28, 3) := by decide +kernel
theorem dX4_withState_100 : decode cX4_withState 100 = .ok (.iload_n 1, 1) := by decide +kernel
theorem dX4_withState_101 : decode cX4_withState 101 = .ok (.iaload, 1) := by decide +kernel
theorem dX4_withState_102 : decode cX4_withState 102 = .ok (.iconst 1, 1) := by decide +kernel
theorem dX4_withState_103 : decode cX4_withState 103 = .ok (.iadd, 1) := by decide +kernel
theorem dX4_withState_104 : decode cX4_withState 104 = .ok (.goto 9, 3) := by decide +kernel
theorem dX4_withState_107 : decode cX4_withState 107 = .ok (.aload_n 0, 1) := by decide +kernel
theorem dX4_withState_108 : decode cX4_withState 108 = .ok (.getfield 28, 3) := by decide +kernel
theorem dX4_withState_111 : decode cX4_withState 111 = .ok (.iload_n 1, 1) := by decide +kernel
theorem dX4_withState_112 : decode cX4_withState 112 = .ok (.iaload, 1) := by decide +kernel
theorem dX4_withState_113 : decode cX4_withState 113 = .ok (.iastore, 1) := by decide +kernel
theorem dX4_withState_114 : decode cX4_withState 114 = .ok (.aload_n 0, 1) := by decide +kernel
theorem dX4_withState_115 : decode cX4_withState 115 = .ok (.getfield 31, 3) := by decide +kernel
theorem dX4_withState_118 : decode cX4_withState 118 = .ok (.iload_n 1, 1) := by decide +kernel
theorem dX4_withState_119 : decode cX4_withState 119 = .ok (.iload_n 2, 1) := by decide +kernel
theorem dX4_withState_120 : decode cX4_withState 120 = .ok (.iastore, 1) := by decide +kernel
theorem dX4_withState_121 : decode cX4_withState 121 = .ok (.aload_n 0, 1) := by decide +kernel
theorem dX4_withState_122 : decode cX4_withState 122 = .ok (.getfield 28, 3) := by decide +kernel
theorem dX4_withState_125 : decode cX4_withState 125 = .ok (.iload_n 1, 1) := by decide +kernel
theorem dX4_withState_126 : decode cX4_withState 126 = .ok (.iaload, 1) := by decide +kernel
theorem dX4_withState_127 : decode cX4_withState 127 = .ok (.ireturn, 1) := by decide +kernel
theorem dX4_withState_128 : decode cX4_withState 128 = .ok (.aload_n 0, 1) := by decide +kernel
theorem dX4_withState_129 : decode cX4_withState 129 = .ok (.getfield 28, 3) := by decide +kernel
theorem dX4_withState_132 : decode cX4_withState 132 = .ok (.iload_n 1, 1) := by decide +kernel
theorem dX4_withState_133 : decode cX4_withState 133 = .ok (.iload_n 2, 1) := by decide +kernel
theorem dX4_withState_134 : decode cX4_withState 134 = .ok (.ifCond .eq 7, 3) := by decide +kernel
theorem dX4_withState_137 : decode cX4_withState 137 = .ok (.iconst 1, 1) := by decide +kernel
theorem dX4_withState_138 : decode cX4_withState 138 = .ok (.goto 17, 3) := by decide +kernel
theorem dX4_withState_141 : decode cX4_withState 141 = .ok (.iload_n 3, 1) := by decide +kernel
theorem dX4_withState_142 : decode cX4_withState 142 = .ok (.ifCond .eq 7, 3) := by decide +kernel
theorem dX4_withState_145 : decode cX4_withState 145 = .ok (.iconst 0, 1) := by decide +kernel
theorem dX4_withState_146 : decode cX4_withState 146 = .ok (.goto 9, 3) := by decide +kernel
theorem dX4_withState_149 : decode cX4_withState 149 = .ok (.aload_n 0, 1) := by decide +kernel
theorem dX4_withState_150 : decode cX4_withState 150 = .ok (.getfield 28, 3) := by decide +kernel
theorem dX4_withState_153 : decode cX4_withState 153 = .ok (.iload_n 1, 1) := by decide +kernel
theorem dX4_withState_154 : decode cX4_withState 154 = .ok (.iaload, 1) := by decide +kernel
theorem dX4_withState_155 : decode cX4_withState 155 = .ok (.iastore, 1) := by decide +kernel
theorem dX4_withState_156 : decode cX4_withState 156 = .ok (.aload_n 0, 1) := by decide +kernel
theorem dX4_withState_157 : decode cX4_withState 157 = .ok (.getfield 28, 3) := by decide +kernel
theorem dX4_withState_160 : decode cX4_withState 160 = .ok (.iload_n 1, 1) := by decide +kernel
theorem dX4_withState_161 : decode cX4_withState 161 = .ok (.iaload, 1) := by decide +kernel
theorem dX4_withState_162 : decode cX4_withState 162 = .ok (.ireturn, 1) := by decide +kernel
theorem dX4_withState_163 : decode cX4_withState 163 = .ok (.aload_n 0, 1) := by decide +kernel
theorem dX4_withState_164 : decode cX4_withState 164 = .ok (.iload_n 1, 1) := by decide +kernel
theorem dX4_withState_165 : decode cX4_withState 165 = .ok (.invokevirtual 107, 3) := by decide +kernel
theorem dX4_withState_168 : decode cX4_withState 168 = .ok (.invokestatic 96, 3) := by decide +kernel
theorem dX4_withState_171 : decode cX4_withState 171 = .ok (.ireturn, 1) := by decide +kernel
theorem dX4_withState_172 : decode cX4_withState 172 = .ok (.aload_n 0, 1) := by decide +kernel
theorem dX4_withState_173 : decode cX4_withState 173 = .ok (.iload_n 1, 1) := by decide +kernel
theorem dX4_withState_174 : decode cX4_withState 174 = .ok (.iload_n 2, 1) := by decide +kernel
theorem dX4_withState_175 : decode cX4_withState 175 = .ok (.invokevirtual 110, 3) := by decide +kernel
theorem dX4_withState_178 : decode cX4_withState 178 = .ok (.ireturn, 1) := by decide +kernel
theorem dX4_withState_179 : decode cX4_withState 179 = .ok (.iload_n 2, 1) := by decide +kernel
theorem dX4_withState_180 : decode cX4_withState 180 = .ok (.aload_n 0, 1) := by decide +kernel
theorem dX4_withState_181 : decode cX4_withState 181 = .ok (.getfield 13, 3) := by decide +kernel
theorem dX4_withState_184 : decode cX4_withState 184 = .ok (.iload_n 1, 1) := by decide +kernel
theorem dX4_withState_185 : decode cX4_withState 185 = .ok (.iaload, 1) := by decide +kernel
theorem dX4_withState_186 : decode cX4_withState 186 = .ok (.if_icmp .ge 12, 3) := by decide +kernel
theorem dX4_withState_189 : decode cX4_withState 189 = .ok (.aload_n 0, 1) := by decide +kernel
theorem dX4_withState_190 : decode cX4_withState 190 = .ok (.getfield 13, 3) := by decide +kernel
theorem dX4_withState_193 : decode cX4_withState 193 = .ok (.iload_n 1, 1) := by decide +kernel
theorem dX4_withState_194 : decode cX4_withState 194 = .ok (.iaload, 1) := by decide +kernel
theorem dX4_withState_195 : decode cX4_withState 195 = .ok (.goto 23, 3) := by decide +kernel
theorem dX4_withState_198 : decode cX4_withState 198 = .ok (.iload_n 2, 1) := by decide +kernel
theorem dX4_withState_199 : decode cX4_withState 199 = .ok (.aload_n 0, 1) := by decide +kernel
theorem dX4_withState_200 : decode cX4_withState 200 = .ok (.getfield 16, 3) := by decide +kernel
theorem dX4_withState_203 : decode cX4_withState 203 = .ok (.iload_n 1, 1) := by decide +kernel
theorem dX4_withState_204 : decode cX4_withState 204 = .ok (.iaload, 1) := by decide +kernel
theorem dX4_withState_205 : decode cX4_withState 205 = .ok (.if_icmp .le 12, 3) := by decide +kernel
theorem dX4_withState_208 : decode cX4_withState 208 = .ok (.aload_n 0, 1) := by decide +kernel
theorem dX4_withState_209 : decode cX4_withState 209 = .ok (.getfield 16, 3) := by decide +kernel
theorem dX4_withState_212 : decode cX4_withState 212 = .ok (.iload_n 1, 1) := by decide +kernel
theorem dX4_withState_213 : decode cX4_withState 213 = .ok (.iaload, 1) := by decide +kernel
theorem dX4_withState_214 : decode cX4_withState 214 = .ok (.goto 4, 3) := by decide +kernel
theorem dX4_withState_217 : decode cX4_withState 217 = .ok (.iload_n 2, 1) := by decide +kernel
theorem dX4_withState_218 : decode cX4_withState 218 = .ok (.ireturn, 1) := by decide +kernel
theorem dX4_withState_219 : decode cX4_withState 219 = .ok (.iload_n 3, 1) := by decide +kernel
theorem dX4_withState_220 : decode cX4_withState 220 = .ok (.ifCond .eq 12, 3) := by decide +kernel
theorem dX4_withState_223 : decode cX4_withState 223 = .ok (.aload_n 0, 1) := by decide +kernel
theorem dX4_withState_224 : decode cX4_withState 224 = .ok (.getfield 25, 3) := by decide +kernel
theorem dX4_withState_227 : decode cX4_withState 227 = .ok (.iload_n 1, 1) := by decide +kernel
theorem dX4_withState_228 : decode cX4_withState 228 = .ok (.iaload, 1) := by decide +kernel
theorem dX4_withState_229 : decode cX4_withState 229 = .ok (.goto 4, 3) := by decide +kernel
theorem dX4_withState_232 : decode cX4_withState 232 = .ok (.iload_n 2, 1) := by decide +kernel
theorem dX4_withState_233 : decode cX4_withState 233 = .ok (.ireturn, 1) := by decide +kernel
theorem dX4_withState_234 : decode cX4_withState 234 = .ok (.aload_n 0, 1) := by decide +kernel
theorem dX4_withState_235 : decode cX4_withState 235 = .ok (.getfield 28, 3) := by decide +kernel
theorem dX4_withState_238 : decode cX4_withState 238 = .ok (.iload_n 1, 1) := by decide +kernel
theorem dX4_withState_239 : decode cX4_withState 239 = .ok (.iload_n 3, 1) := by decide +kernel
theorem dX4_withState_240 : decode cX4_withState 240 = .ok (.ifCond .eq 7, 3) := by decide +kernel
theorem dX4_withState_243 : decode cX4_withState 243 = .ok (.iconst 0, 1) := by decide +kernel
theorem dX4_withState_244 : decode cX4_withState 244 = .ok (.goto 11, 3) := by decide +kernel
theorem dX4_withState_247 : decode cX4_withState 247 = .ok (.aload_n 0, 1) := by decide +kernel
theorem dX4_withState_248 : decode cX4_withState 248 = .ok (.getfield 28, 3) := by decide +kernel
theorem dX4_withState_251 : decode cX4_withState 251 = .ok (.iload_n 1, 1) := by decide +kernel
theorem dX4_withState_252 : decode cX4_withState 252 = .ok (.iaload, 1) := by decide +kernel
theorem dX4_withState_253 : decode cX4_withState 253 = .ok (.iload_n 2, 1) := by decide +kernel
theorem dX4_withState_254 : decode cX4_withState 254 = .ok (.iadd, 1) := by decide +kernel
theorem dX4_withState_255 : decode cX4_withState 255 = .ok (.iastore, 1) := by decide +kernel
theorem dX4_withState_256 : decode cX4_withState 256 = .ok (.aload_n 0, 1) := by decide +kernel
theorem dX4_withState_257 : decode cX4_withState 257 = .ok (.getfield 28, 3) := by decide +kernel
theorem dX4_withState_260 : decode cX4_withState 260 = .ok (.iload_n 1, 1) := by decide +kernel
theorem dX4_withState_261 : decode cX4_withState 261 = .ok (.iaload, 1) := by decide +kernel
theorem dX4_withState_262 : decode cX4_withState 262 = .ok (.ireturn, 1) := by decide +kernel
theorem dX4_withState_263 : decode cX4_withState 263 = .ok (.aload_n 0, 1) := by decide +kernel
theorem dX4_withState_264 : decode cX4_withState 264 = .ok (.iload_n 1, 1) := by decide +kernel
theorem dX4_withState_265 : decode cX4_withState 265 = .ok (.iload_n 2, 1) := by decide +kernel
theorem dX4_withState_266 : decode cX4_withState 266 = .ok (.invokevirtual 113, 3) := by decide +kernel
theorem dX4_withState_269 : decode cX4_withState 269 = .ok (.ireturn, 1) := by decide +kernel
theorem dX4_fail_0 : decode cX4_fail 0 = .ok (.aload_n 0, 1) := by decide +kernel
theorem dX4_fail_1 : decode cX4_fail 1 = .ok (.getfield 53, 3) := by decide +kernel
theorem dX4_fail_4 : decode cX4_fail 4 = .ok (.iconst 0, 1) := by decide +kernel
theorem dX4_fail_5 : decode cX4_fail 5 = .ok (.dup2, 1) := by decide +kernel
theorem dX4_fail_6 : decode cX4_fail 6 = .ok (.iaload, 1) := by decide +kernel
theorem dX4_fail_7 : decode cX4_fail 7 = .ok (.iconst 1, 1) := by decide +kernel
theorem dX4_fail_8 : decode cX4_fail 8 = .ok (.iadd, 1) := by decide +kernel
theorem dX4_fail_9 : decode cX4_fail 9 = .ok (.iastore, 1) := by decide +kernel
theorem dX4_fail_10 : decode cX4_fail 10 = .ok (.aload_n 0, 1) := by decide +kernel
theorem dX4_fail_11 : decode cX4_fail 11 = .ok (.getfield 53, 3) := by decide +kernel
theorem dX4_fail_14 : decode cX4_fail 14 = .ok (.iload_n 2, 1) := by decide +kernel
theorem dX4_fail_15 : decode cX4_fail 15 = .ok (.dup2, 1) := by decide +kernel
theorem dX4_fail_16 : decode cX4_fail 16 = .ok (.iaload, 1) := by decide +kernel
theorem dX4_fail_17 : decode cX4_fail 17 = .ok (.iconst 1, 1) := by decide +kernel
theorem dX4_fail_18 : decode cX4_fail 18 = .ok (.iadd, 1) := by decide +kernel
theorem dX4_fail_19 : decode cX4_fail 19 = .ok (.iastore, 1) := by decide +kernel
theorem dX4_fail_20 : decode cX4_fail 20 = .ok (.iconst 3, 1) := by decide +kernel
theorem dX4_fail_21 : decode cX4_fail 21 = .ok (.aload_n 0, 1) := by decide +kernel
theorem dX4_fail_22 : decode cX4_fail 22 = .ok (.getfield 116, 3) := by decide +kernel
theorem dX4_fail_25 : decode cX4_fail 25 = .ok (.bipush 32, 2) := by decide +kernel
theorem dX4_fail_27 : decode cX4_fail 27 = .ok (.irem, 1) := by decide +kernel
theorem dX4_fail_28 : decode cX4_fail 28 = .ok (.imul, 1) := by decide +kernel
theorem dX4_fail_29 : decode cX4_fail 29 = .ok (.istore_n 3, 1) := by decide +kernel
theorem dX4_fail_30 : decode cX4_fail 30 = .ok (.aload_n 0, 1) := by decide +kernel
theorem dX4_fail_31 : decode cX4_fail 31 = .ok (.getfield 56, 3) := by decide +kernel
theorem dX4_fail_34 : decode cX4_fail 34 = .ok (.iload_n 3, 1) := by decide +kernel
theorem dX4_fail_35 : decode cX4_fail 35 = .ok (.aload_n 0, 1) := by decide +kernel
theorem dX4_fail_36 : decode cX4_fail 36 = .ok (.getfield 100, 3) := by decide +kernel
theorem dX4_fail_39 : decode cX4_fail 39 = .ok (.iastore, 1) := by decide +kernel
theorem dX4_fail_40 : decode cX4_fail 40 = .ok (.aload_n 0, 1) := by decide +kernel
theorem dX4_fail_41 : decode cX4_fail 41 = .ok (.getfield 56, 3) := by decide +kernel
theorem dX4_fail_44 : decode cX4_fail 44 = .ok (.iload_n 3, 1) := by decide +kernel
theorem dX4_fail_45 : decode cX4_fail 45 = .ok (.iconst 1, 1) := by decide +kernel
theorem dX4_fail_46 : decode cX4_fail 46 = .ok (.iadd, 1) := by decide +kernel
theorem dX4_fail_47 : decode cX4_fail 47 = .ok (.iload_n 1, 1) := by decide +kernel
theorem dX4_fail_48 : decode cX4_fail 48 = .ok (.iastore, 1) := by decide +kernel
theorem dX4_fail_49 : decode cX4_fail 49 = .ok (.aload_n 0, 1) := by decide +kernel
theorem dX4_fail_50 : decode cX4_fail 50 = .ok (.getfield 56, 3) := by decide +kernel
theorem dX4_fail_53 : decode cX4_fail 53 = .ok (.iload_n 3, 1) := by decide +kernel
theorem dX4_fail_54 : decode cX4_fail 54 = .ok (.iconst 2, 1) := by decide +kernel
theorem dX4_fail_55 : decode cX4_fail 55 = .ok (.iadd, 1) := by decide +kernel
theorem dX4_fail_56 : decode cX4_fail 56 = .ok (.iload_n 2, 1) := by decide +kernel
theorem dX4_fail_57 : decode cX4_fail 57 = .ok (.iastore, 1) := by decide +kernel
theorem dX4_fail_58 : decode cX4_fail 58 = .ok (.aload_n 0, 1) := by decide +kernel
theorem dX4_fail_59 : decode cX4_fail 59 = .ok (.dup, 1) := by decide +kernel
theorem dX4_fail_60 : decode cX4_fail 60 = .ok (.getfield 116, 3) := by decide +kernel
theorem dX4_fail_63 : decode cX4_fail 63 = .ok (.iconst 1, 1) := by decide +kernel
theorem dX4_fail_64 : decode cX4_fail 64 = .ok (.iadd, 1) := by decide +kernel
theorem dX4_fail_65 : decode cX4_fail 65 = .ok (.putfield 116, 3) := by decide +kernel
theorem dX4_fail_68 : decode cX4_fail 68 = .ok (.return_, 1) := by decide +kernel
set_option maxRecDepth 20000 in
theorem ggX4_reckon_X4_inputsOf : GoodIn wsX4_reckon wsX4_inputsOf := goodIn_r _ [11, 12, 13, 10, 14] (by decide +kernel) (by decide +kernel)
set_option maxRecDepth 20000 in
theorem gX4_reckon_X4_inputsOf : GoodIn wsX4_reckon (va_wsS RX4 80 yX4_inputsOf wsX4_inputsOf) := goodIn_app (goodIn_of _ (by decide +kernel)) ggX4_reckon_X4_inputsOf
set_option maxRecDepth 20000 in
theorem ggX4_reckon_X4_input : GoodIn wsX4_reckon wsX4_input := goodIn_r _ [18, 3, 2, 5, 8, 9, 10, 11, 12, 13, 14, 60, 61, 62, 63, 64, 65, 66, 67, 68, 69, 70, 71, 72, 73, 74, 75, 76, 77, 78, 79, 80, 81, 82, 83, 84] (by decide +kernel) (by decide +kernel)
set_option maxRecDepth 20000 in
theorem gX4_reckon_X4_input : GoodIn wsX4_reckon (wsV RX4 119 RX4 yX4_input wsX4_input) := goodIn_app (goodIn_of _ (by decide +kernel)) ggX4_reckon_X4_input
set_option maxRecDepth 20000 in
theorem ggX4_reckon_X4_plain : GoodIn wsX4_reckon wsX4_plain := goodIn_r _ [22, 2, 23, 1, 24, 25, 12, 13, 10, 14, 26, 27, 28, 60, 61, 62, 63, 64, 65, 66, 67, 68, 69, 70, 71, 72, 73, 74, 75, 76, 77, 78, 79, 80, 81, 82, 83, 84] (by decide +kernel) (by decide +kernel)
set_option maxRecDepth 20000 in
theorem gX4_reckon_X4_plain : GoodIn wsX4_reckon (wsV RX4 122 RX4 yX4_plain wsX4_plain) := goodIn_app (goodIn_of _ (by decide +kernel)) ggX4_reckon_X4_plain
set_option maxRecDepth 20000 in
theorem ggX4_reckon_X4_withState : GoodIn wsX4_reckon wsX4_withState := goodIn_r _ [32, 2, 33, 34, 23, 35, 5, 36, 37, 38, 10, 39, 40, 41, 42, 43, 44, 26, 27, 28, 45, 46, 47, 48, 49, 50, 51, 52, 60, 61, 62, 63, 64, 65, 66, 67, 68, 69, 70, 71, 72, 73, 74, 75, 76, 77, 78, 79, 80, 81, 82, 83, 84] (by decide +kernel) (by decide +kernel)
set_option maxRecDepth 20000 in
theorem gX4_reckon_X4_withState : GoodIn wsX4_reckon (wsV RX4 126 RX4 yX4_withState wsX4_withState) := goodIn_app (goodIn_of _ (by decide +kernel)) ggX4_reckon_X4_withState
set_option maxRecDepth 20000 in
theorem ggX4_reckon_X4_fail : GoodIn wsX4_reckon wsX4_fail := goodIn_r _ [56, 57, 58, 59, 44, 60, 61, 62, 63, 64, 65, 66, 67, 68, 69, 70, 71, 72, 73, 74, 75, 76, 77, 78, 79, 80, 81, 82, 83, 84] (by decide +kernel) (by decide +kernel)
set_option maxRecDepth 20000 in
theorem gX4_reckon_X4_fail : GoodIn wsX4_reckon (wsV RX4 130 RX4 yX4_fail wsX4_fail) := goodIn_app (goodIn_of _ (by decide +kernel)) ggX4_reckon_X4_fail
theorem dX4_reckon_0 : decode cX4_reckon 0 = .ok (.aload_n 0, 1) := by decide +kernel
theorem dX4_reckon_1 : decode cX4_reckon 1 = .ok (.iconst 0, 1) := by decide +kernel
theorem dX4_reckon_2 : decode cX4_reckon 2 = .ok (.putfield 93, 3) := by decide +kernel
theorem dX4_reckon_5 : decode cX4_reckon 5 = .ok (.iconst 0, 1) := by decide +kernel
theorem dX4_reckon_6 : decode cX4_reckon 6 = .ok (.istore_n 2, 1) := by decide +kernel
theorem dX4_reckon_7 : decode cX4_reckon 7 = .ok (.iload_n 2, 1) := by decide +kernel
theorem dX4_reckon_8 : decode cX4_reckon 8 = .ok (.aload_n 0, 1) := by decide +kernel
theorem dX4_reckon_9 : decode cX4_reckon 9 = .ok (.getfield 7, 3) := by decide +kernel
theorem dX4_reckon_12 : decode cX4_reckon 12 = .ok (.iload_n 1, 1) := by decide +kernel
theorem dX4_reckon_13 : decode cX4_reckon 13 = .ok (.iaload, 1) := by decide +kernel
theorem dX4_reckon_14 : decode cX4_reckon 14 = .ok (.invokestatic 80, 3) := by decide +kernel
theorem dX4_reckon_17 : decode cX4_reckon 17 = .ok (.if_icmp .ge 46, 3) := by decide +kernel
theorem dX4_reckon_20 : decode cX4_reckon 20 = .ok (.aload_n 0, 1) := by decide +kernel
theorem dX4_reckon_21 : decode cX4_reckon 21 = .ok (.getfield 7, 3) := by decide +kernel
theorem dX4_reckon_24 : decode cX4_reckon 24 = .ok (.iload_n 1, 1) := by decide +kernel
theorem dX4_reckon_25 : decode cX4_reckon 25 = .ok (.iaload, 1) := by decide +kernel
theorem dX4_reckon_26 : decode cX4_reckon 26 = .ok (.bipush 16, 2) := by decide +kernel
theorem dX4_reckon_28 : decode cX4_reckon 28 = .ok (.if_icmp .eq 35, 3) := by decide +kernel
theorem dX4_reckon_31 : decode cX4_reckon 31 = .ok (.aload_n 0, 1) := by decide +kernel
theorem dX4_reckon_32 : decode cX4_reckon 32 = .ok (.aload_n 0, 1) := by decide +kernel
theorem dX4_reckon_33 : decode cX4_reckon 33 = .ok (.getfield 22, 3) := by decide +kernel
theorem dX4_reckon_36 : decode cX4_reckon 36 = .ok (.iconst 3, 1) := by decide +kernel
theorem dX4_reckon_37 : decode cX4_reckon 37 = .ok (.iload_n 1, 1) := by decide +kernel
theorem dX4_reckon_38 : decode cX4_reckon 38 = .ok (.imul, 1) := by decide +kernel
theorem dX4_reckon_39 : decode cX4_reckon 39 = .ok (.iload_n 2, 1) := by decide +kernel
theorem dX4_reckon_40 : decode cX4_reckon 40 = .ok (.iadd, 1) := by decide +kernel
theorem dX4_reckon_41 : decode cX4_reckon 41 = .ok (.iaload, 1) := by decide +kernel
theorem dX4_reckon_42 : decode cX4_reckon 42 = .ok (.iconst (-1), 1) := by decide +kernel
theorem dX4_reckon_43 : decode cX4_reckon 43 = .ok (.if_icmp .ne 7, 3) := by decide +kernel
theorem dX4_reckon_46 : decode cX4_reckon 46 = .ok (.iconst 3, 1) := by decide +kernel
theorem dX4_reckon_47 : decode cX4_reckon 47 = .ok (.goto 7, 3) := by decide +kernel
theorem dX4_reckon_50 : decode cX4_reckon 50 = .ok (.aload_n 0, 1) := by decide +kernel
theorem dX4_reckon_51 : decode cX4_reckon 51 = .ok (.getfield 93, 3) := by decide +kernel
theorem dX4_reckon_54 : decode cX4_reckon 54 = .ok (.putfield 93, 3) := by decide +kernel
theorem dX4_reckon_57 : decode cX4_reckon 57 = .ok (.iinc 2 1, 3) := by decide +kernel
theorem dX4_reckon_60 : decode cX4_reckon 60 = .ok (.goto (-53), 3) := by decide +kernel
theorem dX4_reckon_63 : decode cX4_reckon 63 = .ok (.iconst 0, 1) := by decide +kernel
theorem dX4_reckon_64 : decode cX4_reckon 64 = .ok (.istore_n 2, 1) := by decide +kernel
theorem dX4_reckon_65 : decode cX4_reckon 65 = .ok (.aload_n 0, 1) := by decide +kernel
theorem dX4_reckon_66 : decode cX4_reckon 66 = .ok (.getfield 93, 3) := by decide +kernel
theorem dX4_reckon_69 : decode cX4_reckon 69 = .ok (.ifCond .ne 58, 3) := by decide +kernel
theorem dX4_reckon_72 : decode cX4_reckon 72 = .ok (.aload_n 0, 1) := by decide +kernel
theorem dX4_reckon_73 : decode cX4_reckon 73 = .ok (.getfield 7, 3) := by decide +kernel
theorem dX4_reckon_76 : decode cX4_reckon 76 = .ok (.iload_n 1, 1) := by decide +kernel
theorem dX4_reckon_77 : decode cX4_reckon 77 = .ok (.iaload, 1) := by decide +kernel
theorem dX4_reckon_78 : decode cX4_reckon 78 = .ok (.bipush 15, 2) := by decide +kernel
theorem dX4_reckon_80 : decode cX4_reckon 80 = .ok (.if_icmp .gt 29, 3) := by decide +kernel
theorem dX4_reckon_83 : decode cX4_reckon 83 = .ok (.aload_n 0, 1) := by decide +kernel
theorem dX4_reckon_84 : decode cX4_reckon 84 = .ok (.iload_n 1, 1) := by decide +kernel
theorem dX4_reckon_85 : decode cX4_reckon 85 = .ok (.aload_n 0, 1) := by decide +kernel
theorem dX4_reckon_86 : decode cX4_reckon 86 = .ok (.iload_n 1, 1) := by decide +kernel
theorem dX4_reckon_87 : decode cX4_reckon 87 = .ok (.iconst 0, 1) := by decide +kernel
theorem dX4_reckon_88 : decode cX4_reckon 88 = .ok (.invokevirtual 119, 3) := by decide +kernel
theorem dX4_reckon_91 : decode cX4_reckon 91 = .ok (.aload_n 0, 1) := by decide +kernel
theorem dX4_reckon_92 : decode cX4_reckon 92 = .ok (.iload_n 1, 1) := by decide +kernel
theorem dX4_reckon_93 : decode cX4_reckon 93 = .ok (.iconst 1, 1) := by decide +kernel
theorem dX4_reckon_94 : decode cX4_reckon 94 = .ok (.invokevirtual 119, 3) := by decide +kernel
theorem dX4_reckon_97 : decode cX4_reckon 97 = .ok (.aload_n 0, 1) := by decide +kernel
theorem dX4_reckon_98 : decode cX4_reckon 98 = .ok (.iload_n 1, 1) := by decide +kernel
theorem dX4_reckon_99 : decode cX4_reckon 99 = .ok (.iconst 2, 1) := by decide +kernel
theorem dX4_reckon_100 : decode cX4_reckon 100 = .ok (.invokevirtual 119, 3) := by decide +kernel
theorem dX4_reckon_103 : decode cX4_reckon 103 = .ok (.invokevirtual 122, 3) := by decide +kernel
theorem dX4_reckon_106 : decode cX4_reckon 106 = .ok (.goto 20, 3) := by decide +kernel
theorem dX4_reckon_109 : decode cX4_reckon 109 = .ok (.aload_n 0, 1) := by decide +kernel
theorem dX4_reckon_110 : decode cX4_reckon 110 = .ok (.iload_n 1, 1) := by decide +kernel
theorem dX4_reckon_111 : decode cX4_reckon 111 = .ok (.aload_n 0, 1) := by decide +kernel
theorem dX4_reckon_112 : decode cX4_reckon 112 = .ok (.iload_n 1, 1) := by decide +kernel
theorem dX4_reckon_113 : decode cX4_reckon 113 = .ok (.iconst 0, 1) := by decide +kernel
theorem dX4_reckon_114 : decode cX4_reckon 114 = .ok (.invokevirtual 119, 3) := by decide +kernel
theorem dX4_reckon_117 : decode cX4_reckon 117 = .ok (.aload_n 0, 1) := by decide +kernel
theorem dX4_reckon_118 : decode cX4_reckon 118 = .ok (.iload_n 1, 1) := by decide +kernel
theorem dX4_reckon_119 : decode cX4_reckon 119 = .ok (.iconst 1, 1) := by decide +kernel
theorem dX4_reckon_120 : decode cX4_reckon 120 = .ok (.invokevirtual 119, 3) := by decide +kernel
theorem dX4_reckon_123 : decode cX4_reckon 123 = .ok (.invokevirtual 126, 3) := by decide +kernel
theorem dX4_reckon_126 : decode cX4_reckon 126 = .ok (.istore_n 2, 1) := by decide +kernel
theorem dX4_reckon_127 : decode cX4_reckon 127 = .ok (.aload_n 0, 1) := by decide +kernel
theorem dX4_reckon_128 : decode cX4_reckon 128 = .ok (.getfield 93, 3) := by decide +kernel
theorem dX4_reckon_131 : decode cX4_reckon 131 = .ok (.ifCond .le 19, 3) := by decide +kernel
theorem dX4_reckon_134 : decode cX4_reckon 134 = .ok (.aload_n 0, 1) := by decide +kernel
theorem dX4_reckon_135 : decode cX4_reckon 135 = .ok (.iload_n 1, 1) := by decide +kernel
theorem dX4_reckon_136 : decode cX4_reckon 136 = .ok (.aload_n 0, 1) := by decide +kernel
theorem dX4_reckon_137 : decode cX4_reckon 137 = .ok (.getfield 93, 3) := by decide +kernel
theorem dX4_reckon_140 : decode cX4_reckon 140 = .ok (.invokevirtual 130, 3) := by decide +kernel
theorem dX4_reckon_143 : decode cX4_reckon 143 = .ok (.aload_n 0, 1) := by decide +kernel
theorem dX4_reckon_144 : decode cX4_reckon 144 = .ok (.getfield 19, 3) := by decide +kernel
theorem dX4_reckon_147 : decode cX4_reckon 147 = .ok (.iload_n 1, 1) := by decide +kernel
theorem dX4_reckon_148 : decode cX4_reckon 148 = .ok (.iaload, 1) := by decide +kernel
theorem dX4_reckon_149 : decode cX4_reckon 149 = .ok (.istore_n 2, 1) := by decide +kernel
theorem dX4_reckon_150 : decode cX4_reckon 150 = .ok (.aload_n 0, 1) := by decide +kernel
theorem dX4_reckon_151 : decode cX4_reckon 151 = .ok (.getfield 25, 3) := by decide +kernel
theorem dX4_reckon_154 : decode cX4_reckon 154 = .ok (.iload_n 1, 1) := by decide +kernel
theorem dX4_reckon_155 : decode cX4_reckon 155 = .ok (.aload_n 0, 1) := by decide +kernel
theorem dX4_reckon_156 : decode cX4_reckon 156 = .ok (.getfield 37, 3) := by decide +kernel
theorem dX4_reckon_159 : decode cX4_reckon 159 = .ok (.iload_n 1, 1) := by decide +kernel
theorem dX4_reckon_160 : decode cX4_reckon 160 = .ok (.baload, 1) := by decide +kernel
theorem dX4_reckon_161 : decode cX4_reckon 161 = .ok (.ifCond .eq 12, 3) := by decide +kernel
theorem dX4_reckon_164 : decode cX4_reckon 164 = .ok (.aload_n 0, 1) := by decide +kernel
theorem dX4_reckon_165 : decode cX4_reckon 165 = .ok (.getfield 41, 3) := by decide +kernel
theorem dX4_reckon_168 : decode cX4_reckon 168 = .ok (.iload_n 1, 1) := by decide +kernel
theorem dX4_reckon_169 : decode cX4_reckon 169 = .ok (.iaload, 1) := by decide +kernel
theorem dX4_reckon_170 : decode cX4_reckon 170 = .ok (.goto 4, 3) := by decide +kernel
theorem dX4_reckon_173 : decode cX4_reckon 173 = .ok (.iload_n 2, 1) := by decide +kernel
theorem dX4_reckon_174 : decode cX4_reckon 174 = .ok (.iastore, 1) := by decide +kernel
theorem dX4_reckon_175 : decode cX4_reckon 175 = .ok (.return_, 1) := by decide +kernel
set_option maxRecDepth 20000 in
theorem ggX4_takeDelay_X4_fail : GoodIn wsX4_takeDelay wsX4_fail := goodIn_r _ [11, 12, 13, 14, 15, 16, 17, 18, 19, 20, 21, 22, 23, 24, 25, 26, 27, 28, 29, 30, 31, 32, 33, 34, 35, 36, 37, 38, 39, 40] (by decide +kernel) (by decide +kernel)
set_option maxRecDepth 20000 in
theorem gX4_takeDelay_X4_fail : GoodIn wsX4_takeDelay (wsV RX4 130 RX4 yX4_fail wsX4_fail) := goodIn_app (goodIn_of _ (by decide +kernel)) ggX4_takeDelay_X4_fail
theorem dX4_takeDelay_0 : decode cX4_takeDelay 0 = .ok (.aload_n 0, 1) := by decide +kernel
theorem dX4_takeDelay_1 : decode cX4_takeDelay 1 = .ok (.getfield 22, 3) := by decide +kernel
theorem dX4_takeDelay_4 : decode cX4_takeDelay 4 = .ok (.iconst 3, 1) := by decide +kernel
theorem dX4_takeDelay_5 : decode cX4_takeDelay 5 = .ok (.iload_n 1, 1) := by decide +kernel
theorem dX4_takeDelay_6 : decode cX4_takeDelay 6 = .ok (.imul, 1) := by decide +kernel
theorem dX4_takeDelay_7 : decode cX4_takeDelay 7 = .ok (.iaload, 1) := by decide +kernel
theorem dX4_takeDelay_8 : decode cX4_takeDelay 8 = .ok (.istore_n 2, 1) := by decide +kernel
theorem dX4_takeDelay_9 : decode cX4_takeDelay 9 = .ok (.iload_n 2, 1) := by decide +kernel
theorem dX4_takeDelay_10 : decode cX4_takeDelay 10 = .ok (.iconst (-1), 1) := by decide +kernel
theorem dX4_takeDelay_11 : decode cX4_takeDelay 11 = .ok (.if_icmp .eq 18, 3) := by decide +kernel
theorem dX4_takeDelay_14 : decode cX4_takeDelay 14 = .ok (.aload_n 0, 1) := by decide +kernel
theorem dX4_takeDelay_15 : decode cX4_takeDelay 15 = .ok (.getfield 28, 3) := by decide +kernel
theorem dX4_takeDelay_18 : decode cX4_takeDelay 18 = .ok (.iload_n 1, 1) := by decide +kernel
theorem dX4_takeDelay_19 : decode cX4_takeDelay 19 = .ok (.aload_n 0, 1) := by decide +kernel
theorem dX4_takeDelay_20 : decode cX4_takeDelay 20 = .ok (.getfield 25, 3) := by decide +kernel
theorem dX4_takeDelay_23 : decode cX4_takeDelay 23 = .ok (.iload_n 2, 1) := by decide +kernel
theorem dX4_takeDelay_24 : decode cX4_takeDelay 24 = .ok (.iaload, 1) := by decide +kernel
theorem dX4_takeDelay_25 : decode cX4_takeDelay 25 = .ok (.iastore, 1) := by decide +kernel
theorem dX4_takeDelay_26 : decode cX4_takeDelay 26 = .ok (.goto 39, 3) := by decide +kernel
theorem dX4_takeDelay_29 : decode cX4_takeDelay 29 = .ok (.aload_n 0, 1) := by decide +kernel
theorem dX4_takeDelay_30 : decode cX4_takeDelay 30 = .ok (.iload_n 1, 1) := by decide +kernel
theorem dX4_takeDelay_31 : decode cX4_takeDelay 31 = .ok (.iconst 3, 1) := by decide +kernel
theorem dX4_takeDelay_32 : decode cX4_takeDelay 32 = .ok (.invokevirtual 130, 3) := by decide +kernel
theorem dX4_takeDelay_35 : decode cX4_takeDelay 35 = .ok (.aload_n 0, 1) := by decide +kernel
theorem dX4_takeDelay_36 : decode cX4_takeDelay 36 = .ok (.getfield 25, 3) := by decide +kernel
theorem dX4_takeDelay_39 : decode cX4_takeDelay 39 = .ok (.iload_n 1, 1) := by decide +kernel
theorem dX4_takeDelay_40 : decode cX4_takeDelay 40 = .ok (.aload_n 0, 1) := by decide +kernel
theorem dX4_takeDelay_41 : decode cX4_takeDelay 41 = .ok (.getfield 37, 3) := by decide +kernel
theorem dX4_takeDelay_44 : decode cX4_takeDelay 44 = .ok (.iload_n 1, 1) := by decide +kernel
theorem dX4_takeDelay_45 : decode cX4_takeDelay 45 = .ok (.baload, 1) := by decide +kernel
theorem dX4_takeDelay_46 : decode cX4_takeDelay 46 = .ok (.ifCond .eq 12, 3) := by decide +kernel
theorem dX4_takeDelay_49 : decode cX4_takeDelay 49 = .ok (.aload_n 0, 1) := by decide +kernel
theorem dX4_takeDelay_50 : decode cX4_takeDelay 50 = .ok (.getfield 41, 3) := by decide +kernel
theorem dX4_takeDelay_53 : decode cX4_takeDelay 53 = .ok (.iload_n 1, 1) := by decide +kernel
theorem dX4_takeDelay_54 : decode cX4_takeDelay 54 = .ok (.iaload, 1) := by decide +kernel
theorem dX4_takeDelay_55 : decode cX4_takeDelay 55 = .ok (.goto 9, 3) := by decide +kernel
theorem dX4_takeDelay_58 : decode cX4_takeDelay 58 = .ok (.aload_n 0, 1) := by decide +kernel
theorem dX4_takeDelay_59 : decode cX4_takeDelay 59 = .ok (.getfield 19, 3) := by decide +kernel
theorem dX4_takeDelay_62 : decode cX4_takeDelay 62 = .ok (.iload_n 1, 1) := by decide +kernel
theorem dX4_takeDelay_63 : decode cX4_takeDelay 63 = .ok (.iaload, 1) := by decide +kernel
theorem dX4_takeDelay_64 : decode cX4_takeDelay 64 = .ok (.iastore, 1) := by decide +kernel
theorem dX4_takeDelay_65 : decode cX4_takeDelay 65 = .ok (.return_, 1) := by decide +kernel
set_option maxRecDepth 20000 in
theorem ggX4_run_X4_in : GoodIn wsX4_run wsX4_in := goodIn_r _ [10] (by decide +kernel) (by decide +kernel)
set_option maxRecDepth 20000 in
theorem gX4_run_X4_in : GoodIn wsX4_run (va_wsS RX4 72 yX4_in wsX4_in) := goodIn_app (goodIn_of _ (by decide +kernel)) ggX4_run_X4_in
set_option maxRecDepth 20000 in
theorem ggX4_run_X4_lay : GoodIn wsX4_run wsX4_lay := goodIn_r _ [14, 2, 3, 15, 5, 16, 17, 18, 9, 19, 6, 20, 21, 22, 23, 7, 8, 10, 81, 82, 83, 84, 85, 86, 87, 88, 89, 90, 91, 92, 93, 94, 95, 96, 97, 98, 99, 100, 101, 102, 103, 104, 105] (by decide +kernel) (by decide +kernel)
set_option maxRecDepth 20000 in
theorem gX4_run_X4_lay : GoodIn wsX4_run (wsV RX4 90 RX4 yX4_lay wsX4_lay) := goodIn_app (goodIn_of _ (by decide +kernel)) ggX4_run_X4_lay
set_option maxRecDepth 20000 in
theorem ggX4_run_X4_reckon : GoodIn wsX4_run wsX4_reckon := goodIn_r _ [27, 28, 6, 20, 29, 30, 31, 32, 21, 22, 9, 23, 7, 8, 10, 33, 34, 35, 36, 37, 38, 39, 40, 41, 42, 43, 44, 45, 46, 47, 48, 49, 50, 51, 52, 53, 54, 55, 56, 57, 58, 59, 60, 61, 4, 62, 63, 64, 65, 66, 67, 68, 69, 70, 71, 72, 73, 74, 75, 76, 81, 82, 83, 84, 85, 86, 87, 88, 89, 90, 91, 92, 93, 94, 95, 96, 97, 98, 99, 100, 101, 102, 103, 104, 105] (by decide +kernel) (by decide +kernel)
set_option maxRecDepth 20000 in
theorem gX4_run_X4_reckon : GoodIn wsX4_run (wsV RX4 134 RX4 yX4_reckon wsX4_reckon) := goodIn_app (goodIn_of _ (by decide +kernel)) ggX4_run_X4_reckon
set_option maxRecDepth 20000 in
theorem ggX4_run_X4_takeDelay : GoodIn wsX4_run wsX4_takeDelay := goodIn_r _ [80, 20, 51, 30, 31, 32, 29, 70, 71, 72, 9, 73, 74, 75, 76, 4, 81, 82, 83, 84, 85, 86, 87, 88, 89, 90, 91, 92, 93, 94, 95, 96, 97, 98, 99, 100, 101, 102, 103, 104, 105] (by decide +kernel) (by decide +kernel)
set_option maxRecDepth 20000 in
theorem gX4_run_X4_takeDelay : GoodIn wsX4_run (wsV RX4 138 RX4 yX4_takeDelay wsX4_takeDelay) := goodIn_app (goodIn_of _ (by decide +kernel)) ggX4_run_X4_takeDelay
theorem dX4_run_0 : decode cX4_run 0 = .ok (.aload_n 0, 1) := by decide +kernel
theorem dX4_run_1 : decode cX4_run 1 = .ok (.iload_n 1, 1) := by decide +kernel
theorem dX4_run_2 : decode cX4_run 2 = .ok (.iconst 1, 1) := by decide +kernel
theorem dX4_run_3 : decode cX4_run 3 = .ok (.sipush 500, 3) := by decide +kernel
theorem dX4_run_6 : decode cX4_run 6 = .ok (.invokestatic 72, 3) := by decide +kernel
theorem dX4_run_9 : decode cX4_run 9 = .ok (.ifCond .eq 7, 3) := by decide +kernel
theorem dX4_run_12 : decode cX4_run 12 = .ok (.iconst 0, 1) := by decide +kernel
theorem dX4_run_13 : decode cX4_run 13 = .ok (.goto 4, 3) := by decide +kernel
theorem dX4_run_16 : decode cX4_run 16 = .ok (.iconst 1, 1) := by decide +kernel
theorem dX4_run_17 : decode cX4_run 17 = .ok (.putfield 65, 3) := by decide +kernel
theorem dX4_run_20 : decode cX4_run 20 = .ok (.aload_n 0, 1) := by decide +kernel
theorem dX4_run_21 : decode cX4_run 21 = .ok (.getfield 65, 3) := by decide +kernel
theorem dX4_run_24 : decode cX4_run 24 = .ok (.ifCond .le 5, 3) := by decide +kernel
theorem dX4_run_27 : decode cX4_run 27 = .ok (.iconst 0, 1) := by decide +kernel
theorem dX4_run_28 : decode cX4_run 28 = .ok (.ireturn, 1) := by decide +kernel
theorem dX4_run_29 : decode cX4_run 29 = .ok (.aload_n 0, 1) := by decide +kernel
theorem dX4_run_30 : decode cX4_run 30 = .ok (.invokevirtual 90, 3) := by decide +kernel
theorem dX4_run_33 : decode cX4_run 33 = .ok (.aload_n 0, 1) := by decide +kernel
theorem dX4_run_34 : decode cX4_run 34 = .ok (.aload_n 0, 1) := by decide +kernel
theorem dX4_run_35 : decode cX4_run 35 = .ok (.getfield 84, 3) := by decide +kernel
theorem dX4_run_38 : decode cX4_run 38 = .ok (.aload_n 0, 1) := by decide +kernel
theorem dX4_run_39 : decode cX4_run 39 = .ok (.getfield 69, 3) := by decide +kernel
theorem dX4_run_42 : decode cX4_run 42 = .ok (.if_icmp .lt 15, 3) := by decide +kernel
theorem dX4_run_45 : decode cX4_run 45 = .ok (.aload_n 0, 1) := by decide +kernel
theorem dX4_run_46 : decode cX4_run 46 = .ok (.getfield 100, 3) := by decide +kernel
theorem dX4_run_49 : decode cX4_run 49 = .ok (.iload_n 1, 1) := by decide +kernel
theorem dX4_run_50 : decode cX4_run 50 = .ok (.iadd, 1) := by decide +kernel
theorem dX4_run_51 : decode cX4_run 51 = .ok (.sipush 3000, 3) := by decide +kernel
theorem dX4_run_54 : decode cX4_run 54 = .ok (.if_icmp .le 7, 3) := by decide +kernel
theorem dX4_run_57 : decode cX4_run 57 = .ok (.iconst 2, 1) := by decide +kernel
theorem dX4_run_58 : decode cX4_run 58 = .ok (.goto 4, 3) := by decide +kernel
theorem dX4_run_61 : decode cX4_run 61 = .ok (.iconst 0, 1) := by decide +kernel
theorem dX4_run_62 : decode cX4_run 62 = .ok (.putfield 65, 3) := by decide +kernel
theorem dX4_run_65 : decode cX4_run 65 = .ok (.iconst 0, 1) := by decide +kernel
theorem dX4_run_66 : decode cX4_run 66 = .ok (.istore_n 2, 1) := by decide +kernel
theorem dX4_run_67 : decode cX4_run 67 = .ok (.iload_n 2, 1) := by decide +kernel
theorem dX4_run_68 : decode cX4_run 68 = .ok (.iload_n 1, 1) := by decide +kernel
theorem dX4_run_69 : decode cX4_run 69 = .ok (.if_icmp .ge 84, 3) := by decide +kernel
theorem dX4_run_72 : decode cX4_run 72 = .ok (.aload_n 0, 1) := by decide +kernel
theorem dX4_run_73 : decode cX4_run 73 = .ok (.getfield 65, 3) := by decide +kernel
theorem dX4_run_76 : decode cX4_run 76 = .ok (.ifCond .ne 77, 3) := by decide +kernel
theorem dX4_run_79 : decode cX4_run 79 = .ok (.aload_n 0, 1) := by decide +kernel
theorem dX4_run_80 : decode cX4_run 80 = .ok (.dup, 1) := by decide +kernel
theorem dX4_run_81 : decode cX4_run 81 = .ok (.getfield 100, 3) := by decide +kernel
theorem dX4_run_84 : decode cX4_run 84 = .ok (.iconst 1, 1) := by decide +kernel
theorem dX4_run_85 : decode cX4_run 85 = .ok (.iadd, 1) := by decide +kernel
theorem dX4_run_86 : decode cX4_run 86 = .ok (.putfield 100, 3) := by decide +kernel
theorem dX4_run_89 : decode cX4_run 89 = .ok (.iconst 0, 1) := by decide +kernel
theorem dX4_run_90 : decode cX4_run 90 = .ok (.istore_n 3, 1) := by decide +kernel
theorem dX4_run_91 : decode cX4_run 91 = .ok (.iload_n 3, 1) := by decide +kernel
theorem dX4_run_92 : decode cX4_run 92 = .ok (.aload_n 0, 1) := by decide +kernel
theorem dX4_run_93 : decode cX4_run 93 = .ok (.getfield 69, 3) := by decide +kernel
theorem dX4_run_96 : decode cX4_run 96 = .ok (.if_icmp .ge 19, 3) := by decide +kernel
theorem dX4_run_99 : decode cX4_run 99 = .ok (.aload_n 0, 1) := by decide +kernel
theorem dX4_run_100 : decode cX4_run 100 = .ok (.aload_n 0, 1) := by decide +kernel
theorem dX4_run_101 : decode cX4_run 101 = .ok (.getfield 47, 3) := by decide +kernel
theorem dX4_run_104 : decode cX4_run 104 = .ok (.iload_n 3, 1) := by decide +kernel
theorem dX4_run_105 : decode cX4_run 105 = .ok (.iaload, 1) := by decide +kernel
theorem dX4_run_106 : decode cX4_run 106 = .ok (.invokevirtual 134, 3) := by decide +kernel
theorem dX4_run_109 : decode cX4_run 109 = .ok (.iinc 3 1, 3) := by decide +kernel
theorem dX4_run_112 : decode cX4_run 112 = .ok (.goto (-21), 3) := by decide +kernel
theorem dX4_run_115 : decode cX4_run 115 = .ok (.iconst 0, 1) := by decide +kernel
theorem dX4_run_116 : decode cX4_run 116 = .ok (.istore_n 3, 1) := by decide +kernel
theorem dX4_run_117 : decode cX4_run 117 = .ok (.iload_n 3, 1) := by decide +kernel
theorem dX4_run_118 : decode cX4_run 118 = .ok (.aload_n 0, 1) := by decide +kernel
theorem dX4_run_119 : decode cX4_run 119 = .ok (.getfield 69, 3) := by decide +kernel
theorem dX4_run_122 : decode cX4_run 122 = .ok (.if_icmp .ge 25, 3) := by decide +kernel
theorem dX4_run_125 : decode cX4_run 125 = .ok (.aload_n 0, 1) := by decide +kernel
theorem dX4_run_126 : decode cX4_run 126 = .ok (.getfield 7, 3) := by decide +kernel
theorem dX4_run_129 : decode cX4_run 129 = .ok (.iload_n 3, 1) := by decide +kernel
theorem dX4_run_130 : decode cX4_run 130 = .ok (.iaload, 1) := by decide +kernel
theorem dX4_run_131 : decode cX4_run 131 = .ok (.bipush 16, 2) := by decide +kernel
theorem dX4_run_133 : decode cX4_run 133 = .ok (.if_icmp .ne 8, 3) := by decide +kernel
theorem dX4_run_136 : decode cX4_run 136 = .ok (.aload_n 0, 1) := by decide +kernel
theorem dX4_run_137 : decode cX4_run 137 = .ok (.iload_n 3, 1) := by decide +kernel
theorem dX4_run_138 : decode cX4_run 138 = .ok (.invokevirtual 138, 3) := by decide +kernel
theorem dX4_run_141 : decode cX4_run 141 = .ok (.iinc 3 1, 3) := by decide +kernel
theorem dX4_run_144 : decode cX4_run 144 = .ok (.goto (-27), 3) := by decide +kernel
theorem dX4_run_147 : decode cX4_run 147 = .ok (.iinc 2 1, 3) := by decide +kernel
theorem dX4_run_150 : decode cX4_run 150 = .ok (.goto (-83), 3) := by decide +kernel
theorem dX4_run_153 : decode cX4_run 153 = .ok (.aload_n 0, 1) := by decide +kernel
theorem dX4_run_154 : decode cX4_run 154 = .ok (.getfield 65, 3) := by decide +kernel
theorem dX4_run_157 : decode cX4_run 157 = .ok (.ifCond .le 7, 3) := by decide +kernel
theorem dX4_run_160 : decode cX4_run 160 = .ok (.iconst 0, 1) := by decide +kernel
theorem dX4_run_161 : decode cX4_run 161 = .ok (.goto 7, 3) := by decide +kernel
theorem dX4_run_164 : decode cX4_run 164 = .ok (.aload_n 0, 1) := by decide +kernel
theorem dX4_run_165 : decode cX4_run 165 = .ok (.getfield 100, 3) := by decide +kernel
theorem dX4_run_168 : decode cX4_run 168 = .ok (.ireturn, 1) := by decide +kernel
set_option maxRecDepth 20000 in
theorem ggX4_out_X4_isBlock : GoodIn wsX4_out wsX4_isBlock := goodIn_r _ [7, 8, 9, 10, 6, 11, 12, 13, 14, 15, 16, 17, 18, 19, 20, 21, 22, 23, 24, 25, 26, 27, 28, 29, 30, 31, 32, 33, 34, 35, 36] (by decide +kernel) (by decide +kernel)
set_option maxRecDepth 20000 in
theorem gX4_out_X4_isBlock : GoodIn wsX4_out (wsV RX4 76 RX4 yX4_isBlock wsX4_isBlock) := goodIn_app (goodIn_of _ (by decide +kernel)) ggX4_out_X4_isBlock
theorem dX4_out_0 : decode cX4_out 0 = .ok (.aload_n 0, 1) := by decide +kernel
theorem dX4_out_1 : decode cX4_out 1 = .ok (.aload_n 0, 1) := by decide +kernel
theorem dX4_out_2 : decode cX4_out 2 = .ok (.iload_n 1, 1) := by decide +kernel
theorem dX4_out_3 : decode cX4_out 3 = .ok (.invokevirtual 76, 3) := by decide +kernel
theorem dX4_out_6 : decode cX4_out 6 = .ok (.ifCond .eq 7, 3) := by decide +kernel
theorem dX4_out_9 : decode cX4_out 9 = .ok (.iconst 0, 1) := by decide +kernel
theorem dX4_out_10 : decode cX4_out 10 = .ok (.goto 4, 3) := by decide +kernel
theorem dX4_out_13 : decode cX4_out 13 = .ok (.iconst 1, 1) := by decide +kernel
theorem dX4_out_14 : decode cX4_out 14 = .ok (.putfield 65, 3) := by decide +kernel
theorem dX4_out_17 : decode cX4_out 17 = .ok (.aload_n 0, 1) := by decide +kernel
theorem dX4_out_18 : decode cX4_out 18 = .ok (.getfield 65, 3) := by decide +kernel
theorem dX4_out_21 : decode cX4_out 21 = .ok (.ifCond .le 7, 3) := by decide +kernel
theorem dX4_out_24 : decode cX4_out 24 = .ok (.iconst 0, 1) := by decide +kernel
theorem dX4_out_25 : decode cX4_out 25 = .ok (.goto 9, 3) := by decide +kernel
theorem dX4_out_28 : decode cX4_out 28 = .ok (.aload_n 0, 1) := by decide +kernel
theorem dX4_out_29 : decode cX4_out 29 = .ok (.getfield 25, 3) := by decide +kernel
theorem dX4_out_32 : decode cX4_out 32 = .ok (.iload_n 1, 1) := by decide +kernel
theorem dX4_out_33 : decode cX4_out 33 = .ok (.iaload, 1) := by decide +kernel
theorem dX4_out_34 : decode cX4_out 34 = .ok (.ireturn, 1) := by decide +kernel
set_option maxRecDepth 20000 in
theorem ggX4_state_X4_isBlock : GoodIn wsX4_state wsX4_isBlock := goodIn_r _ [8, 9, 10, 11, 7, 12, 13, 14, 15, 16, 17, 18, 19, 20, 21, 22, 23, 24, 25, 26, 27, 28, 29, 30, 31, 32, 33, 34, 35, 36, 37] (by decide +kernel) (by decide +kernel)
set_option maxRecDepth 20000 in
theorem gX4_state_X4_isBlock : GoodIn wsX4_state (wsV RX4 76 RX4 yX4_isBlock wsX4_isBlock) := goodIn_app (goodIn_of _ (by decide +kernel)) ggX4_state_X4_isBlock
set_option maxRecDepth 20000 in
theorem ggX4_state_X4_in : GoodIn wsX4_state wsX4_in := goodIn_r _ [12] (by decide +kernel) (by decide +kernel)
set_option maxRecDepth 20000 in
theorem gX4_state_X4_in : GoodIn wsX4_state (va_wsS RX4 72 yX4_in wsX4_in) := goodIn_app (goodIn_of _ (by decide +kernel)) ggX4_state_X4_in
theorem dX4_state_0 : decode cX4_state 0 = .ok (.aload_n 0, 1) := by decide +kernel
theorem dX4_state_1 : decode cX4_state 1 = .ok (.aload_n 0, 1) := by decide +kernel
theorem dX4_state_2 : decode cX4_state 2 = .ok (.iload_n 1, 1) := by decide +kernel
theorem dX4_state_3 : decode cX4_state 3 = .ok (.invokevirtual 76, 3) := by decide +kernel
theorem dX4_state_6 : decode cX4_state 6 = .ok (.ifCond .eq 16, 3) := by decide +kernel
theorem dX4_state_9 : decode cX4_state 9 = .ok (.iload_n 2, 1) := by decide +kernel
theorem dX4_state_10 : decode cX4_state 10 = .ok (.iconst 0, 1) := by decide +kernel
theorem dX4_state_11 : decode cX4_state 11 = .ok (.iconst 1, 1) := by decide +kernel
theorem dX4_state_12 : decode cX4_state 12 = .ok (.invokestatic 72, 3) := by decide +kernel
theorem dX4_state_15 : decode cX4_state 15 = .ok (.ifCond .eq 7, 3) := by decide +kernel
theorem dX4_state_18 : decode cX4_state 18 = .ok (.iconst 0, 1) := by decide +kernel
theorem dX4_state_19 : decode cX4_state 19 = .ok (.goto 4, 3) := by decide +kernel
theorem dX4_state_22 : decode cX4_state 22 = .ok (.iconst 1, 1) := by decide +kernel
theorem dX4_state_23 : decode cX4_state 23 = .ok (.putfield 65, 3) := by decide +kernel
theorem dX4_state_26 : decode cX4_state 26 = .ok (.aload_n 0, 1) := by decide +kernel
theorem dX4_state_27 : decode cX4_state 27 = .ok (.getfield 65, 3) := by decide +kernel
theorem dX4_state_30 : decode cX4_state 30 = .ok (.ifCond .le 7, 3) := by decide +kernel
theorem dX4_state_33 : decode cX4_state 33 = .ok (.iconst 0, 1) := by decide +kernel
theorem dX4_state_34 : decode cX4_state 34 = .ok (.goto 22, 3) := by decide +kernel
theorem dX4_state_37 : decode cX4_state 37 = .ok (.iload_n 2, 1) := by decide +kernel
theorem dX4_state_38 : decode cX4_state 38 = .ok (.ifCond .ne 12, 3) := by decide +kernel
theorem dX4_state_41 : decode cX4_state 41 = .ok (.aload_n 0, 1) := by decide +kernel
theorem dX4_state_42 : decode cX4_state 42 = .ok (.getfield 28, 3) := by decide +kernel
theorem dX4_state_45 : decode cX4_state 45 = .ok (.iload_n 1, 1) := by decide +kernel
theorem dX4_state_46 : decode cX4_state 46 = .ok (.iaload, 1) := by decide +kernel
theorem dX4_state_47 : decode cX4_state 47 = .ok (.goto 9, 3) := by decide +kernel
theorem dX4_state_50 : decode cX4_state 50 = .ok (.aload_n 0, 1) := by decide +kernel
theorem dX4_state_51 : decode cX4_state 51 = .ok (.getfield 31, 3) := by decide +kernel
theorem dX4_state_54 : decode cX4_state 54 = .ok (.iload_n 1, 1) := by decide +kernel
theorem dX4_state_55 : decode cX4_state 55 = .ok (.iaload, 1) := by decide +kernel
theorem dX4_state_56 : decode cX4_state 56 = .ok (.ireturn, 1) := by decide +kernel
set_option maxRecDepth 20000 in
theorem ggX4_failed_X4_in : GoodIn wsX4_failed wsX4_in := goodIn_r _ [6] (by decide +kernel) (by decide +kernel)
set_option maxRecDepth 20000 in
theorem gX4_failed_X4_in : GoodIn wsX4_failed (va_wsS RX4 72 yX4_in wsX4_in) := goodIn_app (goodIn_of _ (by decide +kernel)) ggX4_failed_X4_in
theorem dX4_failed_0 : decode cX4_failed 0 = .ok (.aload_n 0, 1) := by decide +kernel
theorem dX4_failed_1 : decode cX4_failed 1 = .ok (.iload_n 1, 1) := by decide +kernel
theorem dX4_failed_2 : decode cX4_failed 2 = .ok (.iconst 0, 1) := by decide +kernel
theorem dX4_failed_3 : decode cX4_failed 3 = .ok (.iconst 3, 1) := by decide +kernel
theorem dX4_failed_4 : decode cX4_failed 4 = .ok (.invokestatic 72, 3) := by decide +kernel
theorem dX4_failed_7 : decode cX4_failed 7 = .ok (.ifCond .eq 7, 3) := by decide +kernel
theorem dX4_failed_10 : decode cX4_failed 10 = .ok (.iconst 0, 1) := by decide +kernel
theorem dX4_failed_11 : decode cX4_failed 11 = .ok (.goto 4, 3) := by decide +kernel
theorem dX4_failed_14 : decode cX4_failed 14 = .ok (.iconst 1, 1) := by decide +kernel
theorem dX4_failed_15 : decode cX4_failed 15 = .ok (.putfield 65, 3) := by decide +kernel
theorem dX4_failed_18 : decode cX4_failed 18 = .ok (.aload_n 0, 1) := by decide +kernel
theorem dX4_failed_19 : decode cX4_failed 19 = .ok (.getfield 65, 3) := by decide +kernel
theorem dX4_failed_22 : decode cX4_failed 22 = .ok (.ifCond .le 7, 3) := by decide +kernel
theorem dX4_failed_25 : decode cX4_failed 25 = .ok (.iconst 0, 1) := by decide +kernel
theorem dX4_failed_26 : decode cX4_failed 26 = .ok (.goto 9, 3) := by decide +kernel
theorem dX4_failed_29 : decode cX4_failed 29 = .ok (.aload_n 0, 1) := by decide +kernel
theorem dX4_failed_30 : decode cX4_failed 30 = .ok (.getfield 53, 3) := by decide +kernel
theorem dX4_failed_33 : decode cX4_failed 33 = .ok (.iload_n 1, 1) := by decide +kernel
theorem dX4_failed_34 : decode cX4_failed 34 = .ok (.iaload, 1) := by decide +kernel
theorem dX4_failed_35 : decode cX4_failed 35 = .ok (.ireturn, 1) := by decide +kernel
set_option maxRecDepth 20000 in
theorem ggX4_failure_X4_in : GoodIn wsX4_failure wsX4_in := goodIn_r _ [7] (by decide +kernel) (by decide +kernel)
set_option maxRecDepth 20000 in
theorem gX4_failure_X4_in : GoodIn wsX4_failure (va_wsS RX4 72 yX4_in wsX4_in) := goodIn_app (goodIn_of _ (by decide +kernel)) ggX4_failure_X4_in
theorem dX4_failure_0 : decode cX4_failure 0 = .ok (.aload_n 0, 1) := by decide +kernel
theorem dX4_failure_1 : decode cX4_failure 1 = .ok (.iload_n 1, 1) := by decide +kernel
theorem dX4_failure_2 : decode cX4_failure 2 = .ok (.ifCond .lt 30, 3) := by decide +kernel
theorem dX4_failure_5 : decode cX4_failure 5 = .ok (.iload_n 1, 1) := by decide +kernel
theorem dX4_failure_6 : decode cX4_failure 6 = .ok (.aload_n 0, 1) := by decide +kernel
theorem dX4_failure_7 : decode cX4_failure 7 = .ok (.getfield 116, 3) := by decide +kernel
theorem dX4_failure_10 : decode cX4_failure 10 = .ok (.if_icmp .ge 22, 3) := by decide +kernel
theorem dX4_failure_13 : decode cX4_failure 13 = .ok (.iload_n 1, 1) := by decide +kernel
theorem dX4_failure_14 : decode cX4_failure 14 = .ok (.bipush 32, 2) := by decide +kernel
theorem dX4_failure_16 : decode cX4_failure 16 = .ok (.if_icmp .ge 16, 3) := by decide +kernel
theorem dX4_failure_19 : decode cX4_failure 19 = .ok (.iload_n 2, 1) := by decide +kernel
theorem dX4_failure_20 : decode cX4_failure 20 = .ok (.iconst 0, 1) := by decide +kernel
theorem dX4_failure_21 : decode cX4_failure 21 = .ok (.iconst 2, 1) := by decide +kernel
theorem dX4_failure_22 : decode cX4_failure 22 = .ok (.invokestatic 72, 3) := by decide +kernel
theorem dX4_failure_25 : decode cX4_failure 25 = .ok (.ifCond .eq 7, 3) := by decide +kernel
theorem dX4_failure_28 : decode cX4_failure 28 = .ok (.iconst 0, 1) := by decide +kernel
theorem dX4_failure_29 : decode cX4_failure 29 = .ok (.goto 4, 3) := by decide +kernel
theorem dX4_failure_32 : decode cX4_failure 32 = .ok (.iconst 1, 1) := by decide +kernel
theorem dX4_failure_33 : decode cX4_failure 33 = .ok (.putfield 65, 3) := by decide +kernel
theorem dX4_failure_36 : decode cX4_failure 36 = .ok (.aload_n 0, 1) := by decide +kernel
theorem dX4_failure_37 : decode cX4_failure 37 = .ok (.getfield 65, 3) := by decide +kernel
theorem dX4_failure_40 : decode cX4_failure 40 = .ok (.ifCond .le 7, 3) := by decide +kernel
theorem dX4_failure_43 : decode cX4_failure 43 = .ok (.iconst 0, 1) := by decide +kernel
theorem dX4_failure_44 : decode cX4_failure 44 = .ok (.goto 23, 3) := by decide +kernel
theorem dX4_failure_47 : decode cX4_failure 47 = .ok (.aload_n 0, 1) := by decide +kernel
theorem dX4_failure_48 : decode cX4_failure 48 = .ok (.getfield 56, 3) := by decide +kernel
theorem dX4_failure_51 : decode cX4_failure 51 = .ok (.iconst 3, 1) := by decide +kernel
theorem dX4_failure_52 : decode cX4_failure 52 = .ok (.aload_n 0, 1) := by decide +kernel
theorem dX4_failure_53 : decode cX4_failure 53 = .ok (.getfield 116, 3) := by decide +kernel
theorem dX4_failure_56 : decode cX4_failure 56 = .ok (.iconst 1, 1) := by decide +kernel
theorem dX4_failure_57 : decode cX4_failure 57 = .ok (.isub, 1) := by decide +kernel
theorem dX4_failure_58 : decode cX4_failure 58 = .ok (.iload_n 1, 1) := by decide +kernel
theorem dX4_failure_59 : decode cX4_failure 59 = .ok (.isub, 1) := by decide +kernel
theorem dX4_failure_60 : decode cX4_failure 60 = .ok (.bipush 32, 2) := by decide +kernel
theorem dX4_failure_62 : decode cX4_failure 62 = .ok (.irem, 1) := by decide +kernel
theorem dX4_failure_63 : decode cX4_failure 63 = .ok (.imul, 1) := by decide +kernel
theorem dX4_failure_64 : decode cX4_failure 64 = .ok (.iload_n 2, 1) := by decide +kernel
theorem dX4_failure_65 : decode cX4_failure 65 = .ok (.iadd, 1) := by decide +kernel
theorem dX4_failure_66 : decode cX4_failure 66 = .ok (.iaload, 1) := by decide +kernel
theorem dX4_failure_67 : decode cX4_failure 67 = .ok (.ireturn, 1) := by decide +kernel
theorem dX4_save_0 : decode cX4_save 0 = .ok (.aload_n 0, 1) := by decide +kernel
theorem dX4_save_1 : decode cX4_save 1 = .ok (.aload_n 0, 1) := by decide +kernel
theorem dX4_save_2 : decode cX4_save 2 = .ok (.getfield 141, 3) := by decide +kernel
theorem dX4_save_5 : decode cX4_save 5 = .ok (.iconst 5, 1) := by decide +kernel
theorem dX4_save_6 : decode cX4_save 6 = .ok (.if_icmp .ne 7, 3) := by decide +kernel
theorem dX4_save_9 : decode cX4_save 9 = .ok (.iconst 1, 1) := by decide +kernel
theorem dX4_save_10 : decode cX4_save 10 = .ok (.goto 4, 3) := by decide +kernel
theorem dX4_save_13 : decode cX4_save 13 = .ok (.iconst 0, 1) := by decide +kernel
theorem dX4_save_14 : decode cX4_save 14 = .ok (.putfield 65, 3) := by decide +kernel
theorem dX4_save_17 : decode cX4_save 17 = .ok (.aload_n 0, 1) := by decide +kernel
theorem dX4_save_18 : decode cX4_save 18 = .ok (.getfield 65, 3) := by decide +kernel
theorem dX4_save_21 : decode cX4_save 21 = .ok (.ifCond .le 5, 3) := by decide +kernel
theorem dX4_save_24 : decode cX4_save 24 = .ok (.iconst 0, 1) := by decide +kernel
theorem dX4_save_25 : decode cX4_save 25 = .ok (.ireturn, 1) := by decide +kernel
theorem dX4_save_26 : decode cX4_save 26 = .ok (.aload_n 0, 1) := by decide +kernel
theorem dX4_save_27 : decode cX4_save 27 = .ok (.getfield 59, 3) := by decide +kernel
theorem dX4_save_30 : decode cX4_save 30 = .ok (.aload_n 0, 1) := by decide +kernel
theorem dX4_save_31 : decode cX4_save 31 = .ok (.getfield 141, 3) := by decide +kernel
theorem dX4_save_34 : decode cX4_save 34 = .ok (.aload_n 0, 1) := by decide +kernel
theorem dX4_save_35 : decode cX4_save 35 = .ok (.getfield 69, 3) := by decide +kernel
theorem dX4_save_38 : decode cX4_save 38 = .ok (.iastore, 1) := by decide +kernel
theorem dX4_save_39 : decode cX4_save 39 = .ok (.iconst 0, 1) := by decide +kernel
theorem dX4_save_40 : decode cX4_save 40 = .ok (.istore_n 1, 1) := by decide +kernel
theorem dX4_save_41 : decode cX4_save 41 = .ok (.iload_n 1, 1) := by decide +kernel
theorem dX4_save_42 : decode cX4_save 42 = .ok (.aload_n 0, 1) := by decide +kernel
theorem dX4_save_43 : decode cX4_save 43 = .ok (.getfield 69, 3) := by decide +kernel
theorem dX4_save_46 : decode cX4_save 46 = .ok (.if_icmp .ge 75, 3) := by decide +kernel
theorem dX4_save_49 : decode cX4_save 49 = .ok (.iconst 4, 1) := by decide +kernel
theorem dX4_save_50 : decode cX4_save 50 = .ok (.bipush 40, 2) := by decide +kernel
theorem dX4_save_52 : decode cX4_save 52 = .ok (.aload_n 0, 1) := by decide +kernel
theorem dX4_save_53 : decode cX4_save 53 = .ok (.getfield 141, 3) := by decide +kernel
theorem dX4_save_56 : decode cX4_save 56 = .ok (.imul, 1) := by decide +kernel
theorem dX4_save_57 : decode cX4_save 57 = .ok (.iload_n 1, 1) := by decide +kernel
theorem dX4_save_58 : decode cX4_save 58 = .ok (.iadd, 1) := by decide +kernel
theorem dX4_save_59 : decode cX4_save 59 = .ok (.imul, 1) := by decide +kernel
theorem dX4_save_60 : decode cX4_save 60 = .ok (.istore_n 2, 1) := by decide +kernel
theorem dX4_save_61 : decode cX4_save 61 = .ok (.aload_n 0, 1) := by decide +kernel
theorem dX4_save_62 : decode cX4_save 62 = .ok (.getfield 62, 3) := by decide +kernel
theorem dX4_save_65 : decode cX4_save 65 = .ok (.iload_n 2, 1) := by decide +kernel
theorem dX4_save_66 : decode cX4_save 66 = .ok (.aload_n 0, 1) := by decide +kernel
theorem dX4_save_67 : decode cX4_save 67 = .ok (.getfield 7, 3) := by decide +kernel
theorem dX4_save_70 : decode cX4_save 70 = .ok (.iload_n 1, 1) := by decide +kernel
theorem dX4_save_71 : decode cX4_save 71 = .ok (.iaload, 1) := by decide +kernel
theorem dX4_save_72 : decode cX4_save 72 = .ok (.iastore, 1) := by decide +kernel
theorem dX4_save_73 : decode cX4_save 73 = .ok (.aload_n 0, 1) := by decide +kernel
theorem dX4_save_74 : decode cX4_save 74 = .ok (.getfield 62, 3) := by decide +kernel
theorem dX4_save_77 : decode cX4_save 77 = .ok (.iload_n 2, 1) := by decide +kernel
theorem dX4_save_78 : decode cX4_save 78 = .ok (.iconst 1, 1) := by decide +kernel
theorem dX4_save_79 : decode cX4_save 79 = .ok (.iadd, 1) := by decide +kernel
theorem dX4_save_80 : decode cX4_save 80 = .ok (.aload_n 0, 1) := by decide +kernel
theorem dX4_save_81 : decode cX4_save 81 = .ok (.getfield 25, 3) := by decide +kernel
theorem dX4_save_84 : decode cX4_save 84 = .ok (.iload_n 1, 1) := by decide +kernel
theorem dX4_save_85 : decode cX4_save 85 = .ok (.iaload, 1) := by decide +kernel
theorem dX4_save_86 : decode cX4_save 86 = .ok (.iastore, 1) := by decide +kernel
theorem dX4_save_87 : decode cX4_save 87 = .ok (.aload_n 0, 1) := by decide +kernel
theorem dX4_save_88 : decode cX4_save 88 = .ok (.getfield 62, 3) := by decide +kernel
theorem dX4_save_91 : decode cX4_save 91 = .ok (.iload_n 2, 1) := by decide +kernel
theorem dX4_save_92 : decode cX4_save 92 = .ok (.iconst 2, 1) := by decide +kernel
theorem dX4_save_93 : decode cX4_save 93 = .ok (.iadd, 1) := by decide +kernel
theorem dX4_save_94 : decode cX4_save 94 = .ok (.aload_n 0, 1) := by decide +kernel
theorem dX4_save_95 : decode cX4_save 95 = .ok (.getfield 28, 3) := by decide +kernel
theorem dX4_save_98 : decode cX4_save 98 = .ok (.iload_n 1, 1) := by decide +kernel
theorem dX4_save_99 : decode cX4_save 99 = .ok (.iaload, 1) := by decide +kernel
theorem dX4_save_100 : decode cX4_save 100 = .ok (.iastore, 1) := by decide +kernel
theorem dX4_save_101 : decode cX4_save 101 = .ok (.aload_n 0, 1) := by decide +kernel
theorem dX4_save_102 : decode cX4_save 102 = .ok (.getfield 62, 3) := by decide +kernel
theorem dX4_save_105 : decode cX4_save 105 = .ok (.iload_n 2, 1) := by decide +kernel
theorem dX4_save_106 : decode cX4_save 106 = .ok (.iconst 3, 1) := by decide +kernel
theorem dX4_save_107 : decode cX4_save 107 = .ok (.iadd, 1) := by decide +kernel
theorem dX4_save_108 : decode cX4_save 108 = .ok (.aload_n 0, 1) := by decide +kernel
theorem dX4_save_109 : decode cX4_save 109 = .ok (.getfield 31, 3) := by decide +kernel
theorem dX4_save_112 : decode cX4_save 112 = .ok (.iload_n 1, 1) := by decide +kernel
theorem dX4_save_113 : decode cX4_save 113 = .ok (.iaload, 1) := by decide +kernel
theorem dX4_save_114 : decode cX4_save 114 = .ok (.iastore, 1) := by decide +kernel
theorem dX4_save_115 : decode cX4_save 115 = .ok (.iinc 1 1, 3) := by decide +kernel
theorem dX4_save_118 : decode cX4_save 118 = .ok (.goto (-77), 3) := by decide +kernel
theorem dX4_save_121 : decode cX4_save 121 = .ok (.aload_n 0, 1) := by decide +kernel
theorem dX4_save_122 : decode cX4_save 122 = .ok (.dup, 1) := by decide +kernel
theorem dX4_save_123 : decode cX4_save 123 = .ok (.getfield 141, 3) := by decide +kernel
theorem dX4_save_126 : decode cX4_save 126 = .ok (.iconst 1, 1) := by decide +kernel
theorem dX4_save_127 : decode cX4_save 127 = .ok (.iadd, 1) := by decide +kernel
theorem dX4_save_128 : decode cX4_save 128 = .ok (.putfield 141, 3) := by decide +kernel
theorem dX4_save_131 : decode cX4_save 131 = .ok (.aload_n 0, 1) := by decide +kernel
theorem dX4_save_132 : decode cX4_save 132 = .ok (.getfield 141, 3) := by decide +kernel
theorem dX4_save_135 : decode cX4_save 135 = .ok (.iconst 1, 1) := by decide +kernel
theorem dX4_save_136 : decode cX4_save 136 = .ok (.isub, 1) := by decide +kernel
theorem dX4_save_137 : decode cX4_save 137 = .ok (.ireturn, 1) := by decide +kernel
set_option maxRecDepth 20000 in
theorem ggX4_back_X4_in : GoodIn wsX4_back wsX4_in := goodIn_r _ [12] (by decide +kernel) (by decide +kernel)
set_option maxRecDepth 20000 in
theorem gX4_back_X4_in : GoodIn wsX4_back (va_wsS RX4 72 yX4_in wsX4_in) := goodIn_app (goodIn_of _ (by decide +kernel)) ggX4_back_X4_in
theorem dX4_back_0 : decode cX4_back 0 = .ok (.aload_n 0, 1) := by decide +kernel
theorem dX4_back_1 : decode cX4_back 1 = .ok (.iload_n 1, 1) := by decide +kernel
theorem dX4_back_2 : decode cX4_back 2 = .ok (.iconst 0, 1) := by decide +kernel
theorem dX4_back_3 : decode cX4_back 3 = .ok (.aload_n 0, 1) := by decide +kernel
theorem dX4_back_4 : decode cX4_back 4 = .ok (.getfield 141, 3) := by decide +kernel
theorem dX4_back_7 : decode cX4_back 7 = .ok (.iconst 1, 1) := by decide +kernel
theorem dX4_back_8 : decode cX4_back 8 = .ok (.isub, 1) := by decide +kernel
theorem dX4_back_9 : decode cX4_back 9 = .ok (.invokestatic 72, 3) := by decide +kernel
theorem dX4_back_12 : decode cX4_back 12 = .ok (.ifCond .eq 7, 3) := by decide +kernel
theorem dX4_back_15 : decode cX4_back 15 = .ok (.iconst 0, 1) := by decide +kernel
theorem dX4_back_16 : decode cX4_back 16 = .ok (.goto 4, 3) := by decide +kernel
theorem dX4_back_19 : decode cX4_back 19 = .ok (.iconst 1, 1) := by decide +kernel
theorem dX4_back_20 : decode cX4_back 20 = .ok (.putfield 65, 3) := by decide +kernel
theorem dX4_back_23 : decode cX4_back 23 = .ok (.iconst 0, 1) := by decide +kernel
theorem dX4_back_24 : decode cX4_back 24 = .ok (.istore_n 2, 1) := by decide +kernel
theorem dX4_back_25 : decode cX4_back 25 = .ok (.iconst 0, 1) := by decide +kernel
theorem dX4_back_26 : decode cX4_back 26 = .ok (.istore_n 3, 1) := by decide +kernel
theorem dX4_back_27 : decode cX4_back 27 = .ok (.aload_n 0, 1) := by decide +kernel
theorem dX4_back_28 : decode cX4_back 28 = .ok (.getfield 65, 3) := by decide +kernel
theorem dX4_back_31 : decode cX4_back 31 = .ok (.ifCond .ne 93, 3) := by decide +kernel
theorem dX4_back_34 : decode cX4_back 34 = .ok (.iload_n 3, 1) := by decide +kernel
theorem dX4_back_35 : decode cX4_back 35 = .ok (.aload_n 0, 1) := by decide +kernel
theorem dX4_back_36 : decode cX4_back 36 = .ok (.getfield 59, 3) := by decide +kernel
theorem dX4_back_39 : decode cX4_back 39 = .ok (.iload_n 1, 1) := by decide +kernel
theorem dX4_back_40 : decode cX4_back 40 = .ok (.iaload, 1) := by decide +kernel
theorem dX4_back_41 : decode cX4_back 41 = .ok (.if_icmp .ge 83, 3) := by decide +kernel
theorem dX4_back_44 : decode cX4_back 44 = .ok (.iconst 4, 1) := by decide +kernel
theorem dX4_back_45 : decode cX4_back 45 = .ok (.bipush 40, 2) := by decide +kernel
theorem dX4_back_47 : decode cX4_back 47 = .ok (.iload_n 1, 1) := by decide +kernel
theorem dX4_back_48 : decode cX4_back 48 = .ok (.imul, 1) := by decide +kernel
theorem dX4_back_49 : decode cX4_back 49 = .ok (.iload_n 3, 1) := by decide +kernel
theorem dX4_back_50 : decode cX4_back 50 = .ok (.iadd, 1) := by decide +kernel
theorem dX4_back_51 : decode cX4_back 51 = .ok (.imul, 1) := by decide +kernel
theorem dX4_back_52 : decode cX4_back 52 = .ok (.istore 4, 2) := by decide +kernel
theorem dX4_back_54 : decode cX4_back 54 = .ok (.aload_n 0, 1) := by decide +kernel
theorem dX4_back_55 : decode cX4_back 55 = .ok (.getfield 62, 3) := by decide +kernel
theorem dX4_back_58 : decode cX4_back 58 = .ok (.iload 4, 2) := by decide +kernel
theorem dX4_back_60 : decode cX4_back 60 = .ok (.iaload, 1) := by decide +kernel
theorem dX4_back_61 : decode cX4_back 61 = .ok (.aload_n 0, 1) := by decide +kernel
theorem dX4_back_62 : decode cX4_back 62 = .ok (.getfield 7, 3) := by decide +kernel
theorem dX4_back_65 : decode cX4_back 65 = .ok (.iload_n 3, 1) := by decide +kernel
theorem dX4_back_66 : decode cX4_back 66 = .ok (.iaload, 1) := by decide +kernel
theorem dX4_back_67 : decode cX4_back 67 = .ok (.if_icmp .ne 51, 3) := by decide +kernel
theorem dX4_back_70 : decode cX4_back 70 = .ok (.aload_n 0, 1) := by decide +kernel
theorem dX4_back_71 : decode cX4_back 71 = .ok (.getfield 25, 3) := by decide +kernel
theorem dX4_back_74 : decode cX4_back 74 = .ok (.iload_n 3, 1) := by decide +kernel
theorem dX4_back_75 : decode cX4_back 75 = .ok (.aload_n 0, 1) := by decide +kernel
theorem dX4_back_76 : decode cX4_back 76 = .ok (.getfield 62, 3) := by decide +kernel
theorem dX4_back_79 : decode cX4_back 79 = .ok (.iload 4, 2) := by decide +kernel
theorem dX4_back_81 : decode cX4_back 81 = .ok (.iconst 1, 1) := by decide +kernel
theorem dX4_back_82 : decode cX4_back 82 = .ok (.iadd, 1) := by decide +kernel
theorem dX4_back_83 : decode cX4_back 83 = .ok (.iaload, 1) := by decide +kernel
theorem dX4_back_84 : decode cX4_back 84 = .ok (.iastore, 1) := by decide +kernel
theorem dX4_back_85 : decode cX4_back 85 = .ok (.aload_n 0, 1) := by decide +kernel
theorem dX4_back_86 : decode cX4_back 86 = .ok (.getfield 28, 3) := by decide +kernel
theorem dX4_back_89 : decode cX4_back 89 = .ok (.iload_n 3, 1) := by decide +kernel
theorem dX4_back_90 : decode cX4_back 90 = .ok (.aload_n 0, 1) := by decide +kernel
theorem dX4_back_91 : decode cX4_back 91 = .ok (.getfield 62, 3) := by decide +kernel
theorem dX4_back_94 : decode cX4_back 94 = .ok (.iload 4, 2) := by decide +kernel
theorem dX4_back_96 : decode cX4_back 96 = .ok (.iconst 2, 1) := by decide +kernel
theorem dX4_back_97 : decode cX4_back 97 = .ok (.iadd, 1) := by decide +kernel
theorem dX4_back_98 : decode cX4_back 98 = .ok (.iaload, 1) := by decide +kernel
theorem dX4_back_99 : decode cX4_back 99 = .ok (.iastore, 1) := by decide +kernel
theorem dX4_back_100 : decode cX4_back 100 = .ok (.aload_n 0, 1) := by decide +kernel
theorem dX4_back_101 : decode cX4_back 101 = .ok (.getfield 31, 3) := by decide +kernel
theorem dX4_back_104 : decode cX4_back 104 = .ok (.iload_n 3, 1) := by decide +kernel
theorem dX4_back_105 : decode cX4_back 105 = .ok (.aload_n 0, 1) := by decide +kernel
theorem dX4_back_106 : decode cX4_back 106 = .ok (.getfield 62, 3) := by decide +kernel
theorem dX4_back_109 : decode cX4_back 109 = .ok (.iload 4, 2) := by decide +kernel
theorem dX4_back_111 : decode cX4_back 111 = .ok (.iconst 3, 1) := by decide +kernel
theorem dX4_back_112 : decode cX4_back 112 = .ok (.iadd, 1) := by decide +kernel
theorem dX4_back_113 : decode cX4_back 113 = .ok (.iaload, 1) := by decide +kernel
theorem dX4_back_114 : decode cX4_back 114 = .ok (.iastore, 1) := by decide +kernel
theorem dX4_back_115 : decode cX4_back 115 = .ok (.iinc 2 1, 3) := by decide +kernel
theorem dX4_back_118 : decode cX4_back 118 = .ok (.iinc 3 1, 3) := by decide +kernel
theorem dX4_back_121 : decode cX4_back 121 = .ok (.goto (-94), 3) := by decide +kernel
theorem dX4_back_124 : decode cX4_back 124 = .ok (.iload_n 2, 1) := by decide +kernel
theorem dX4_back_125 : decode cX4_back 125 = .ok (.ireturn, 1) := by decide +kernel
theorem dJ9_floorMod_7cf53_0 : decode cJ9_floorMod_7cf53 0 = .ok (.iload_n 0, 1) := by decide +kernel
theorem dJ9_floorMod_7cf53_1 : decode cJ9_floorMod_7cf53 1 = .ok (.iload_n 1, 1) := by decide +kernel
theorem dJ9_floorMod_7cf53_2 : decode cJ9_floorMod_7cf53 2 = .ok (.irem, 1) := by decide +kernel
theorem dJ9_floorMod_7cf53_3 : decode cJ9_floorMod_7cf53 3 = .ok (.istore_n 2, 1) := by decide +kernel
theorem dJ9_floorMod_7cf53_4 : decode cJ9_floorMod_7cf53 4 = .ok (.iload_n 0, 1) := by decide +kernel
theorem dJ9_floorMod_7cf53_5 : decode cJ9_floorMod_7cf53 5 = .ok (.iload_n 1, 1) := by decide +kernel
theorem dJ9_floorMod_7cf53_6 : decode cJ9_floorMod_7cf53 6 = .ok (.ixor, 1) := by decide +kernel
theorem dJ9_floorMod_7cf53_7 : decode cJ9_floorMod_7cf53 7 = .ok (.ifCond .ge 11, 3) := by decide +kernel
theorem dJ9_floorMod_7cf53_10 : decode cJ9_floorMod_7cf53 10 = .ok (.iload_n 2, 1) := by decide +kernel
theorem dJ9_floorMod_7cf53_11 : decode cJ9_floorMod_7cf53 11 = .ok (.ifCond .eq 7, 3) := by decide +kernel
theorem dJ9_floorMod_7cf53_14 : decode cJ9_floorMod_7cf53 14 = .ok (.iload_n 2, 1) := by decide +kernel
theorem dJ9_floorMod_7cf53_15 : decode cJ9_floorMod_7cf53 15 = .ok (.iload_n 1, 1) := by decide +kernel
theorem dJ9_floorMod_7cf53_16 : decode cJ9_floorMod_7cf53 16 = .ok (.iadd, 1) := by decide +kernel
theorem dJ9_floorMod_7cf53_17 : decode cJ9_floorMod_7cf53 17 = .ok (.ireturn, 1) := by decide +kernel
theorem dJ9_floorMod_7cf53_18 : decode cJ9_floorMod_7cf53 18 = .ok (.iload_n 2, 1) := by decide +kernel
theorem dJ9_floorMod_7cf53_19 : decode cJ9_floorMod_7cf53 19 = .ok (.ireturn, 1) := by decide +kernel
theorem dJ9_abs_067f4_0 : decode cJ9_abs_067f4 0 = .ok (.lload_n 0, 1) := by decide +kernel
theorem dJ9_abs_067f4_1 : decode cJ9_abs_067f4 1 = .ok (.lconst 0, 1) := by decide +kernel
theorem dJ9_abs_067f4_2 : decode cJ9_abs_067f4 2 = .ok (.lcmp, 1) := by decide +kernel
theorem dJ9_abs_067f4_3 : decode cJ9_abs_067f4 3 = .ok (.ifCond .ge 8, 3) := by decide +kernel
theorem dJ9_abs_067f4_6 : decode cJ9_abs_067f4 6 = .ok (.lload_n 0, 1) := by decide +kernel
theorem dJ9_abs_067f4_7 : decode cJ9_abs_067f4 7 = .ok (.lneg, 1) := by decide +kernel
theorem dJ9_abs_067f4_8 : decode cJ9_abs_067f4 8 = .ok (.goto 4, 3) := by decide +kernel
theorem dJ9_abs_067f4_11 : decode cJ9_abs_067f4 11 = .ok (.lload_n 0, 1) := by decide +kernel
theorem dJ9_abs_067f4_12 : decode cJ9_abs_067f4 12 = .ok (.lreturn, 1) := by decide +kernel
theorem dJ9_max_7cf53_0 : decode cJ9_max_7cf53 0 = .ok (.iload_n 0, 1) := by decide +kernel
theorem dJ9_max_7cf53_1 : decode cJ9_max_7cf53 1 = .ok (.iload_n 1, 1) := by decide +kernel
theorem dJ9_max_7cf53_2 : decode cJ9_max_7cf53 2 = .ok (.if_icmp .lt 7, 3) := by decide +kernel
theorem dJ9_max_7cf53_5 : decode cJ9_max_7cf53 5 = .ok (.iload_n 0, 1) := by decide +kernel
theorem dJ9_max_7cf53_6 : decode cJ9_max_7cf53 6 = .ok (.goto 4, 3) := by decide +kernel
theorem dJ9_max_7cf53_9 : decode cJ9_max_7cf53 9 = .ok (.iload_n 1, 1) := by decide +kernel
theorem dJ9_max_7cf53_10 : decode cJ9_max_7cf53 10 = .ok (.ireturn, 1) := by decide +kernel
theorem dJ9_min_7cf53_0 : decode cJ9_min_7cf53 0 = .ok (.iload_n 0, 1) := by decide +kernel
theorem dJ9_min_7cf53_1 : decode cJ9_min_7cf53 1 = .ok (.iload_n 1, 1) := by decide +kernel
theorem dJ9_min_7cf53_2 : decode cJ9_min_7cf53 2 = .ok (.if_icmp .gt 7, 3) := by decide +kernel
theorem dJ9_min_7cf53_5 : decode cJ9_min_7cf53 5 = .ok (.iload_n 0, 1) := by decide +kernel
theorem dJ9_min_7cf53_6 : decode cJ9_min_7cf53 6 = .ok (.goto 4, 3) := by decide +kernel
theorem dJ9_min_7cf53_9 : decode cJ9_min_7cf53 9 = .ok (.iload_n 1, 1) := by decide +kernel
theorem dJ9_min_7cf53_10 : decode cJ9_min_7cf53 10 = .ok (.ireturn, 1) := by decide +kernel
set_option maxRecDepth 20000 in
theorem ggL_block_X3_block : GoodIn wsL_block wsX3_block := goodIn_ca (goodIn_ca (goodIn_r _ [7, 8, 9, 10, 11, 12, 13, 14, 15, 16, 6, 17, 18, 19, 20, 21, 22, 23, 24, 25, 26, 27, 28, 29, 30, 31, 32, 33, 34, 35, 36, 37, 38, 39, 40, 41, 42, 43, 44, 45, 46, 47, 48, 49, 50, 51, 52, 53, 54, 55, 56, 57, 58] (by decide +kernel) (by decide +kernel)) (goodIn_sub (fun _ h => List.mem_cons_of_mem _ (List.mem_append_left _ (List.mem_append_right _ h))) (by decide +kernel))) (goodIn_sub (fun _ h => List.mem_cons_of_mem _ (List.mem_append_right _ h)) (by decide +kernel))
set_option maxRecDepth 20000 in
theorem gL_block_X3_block : GoodIn wsL_block (wsV RL 7 RX3 yX3_block wsX3_block) := goodIn_app (goodIn_of _ (by decide +kernel)) ggL_block_X3_block
theorem dL_block_0 : decode cL_block 0 = .ok (.aload_n 2, 1) := by decide +kernel
theorem dL_block_1 : decode cL_block 1 = .ok (.iconst 0, 1) := by decide +kernel
theorem dL_block_2 : decode cL_block 2 = .ok (.aload_n 0, 1) := by decide +kernel
theorem dL_block_3 : decode cL_block 3 = .ok (.iload_n 1, 1) := by decide +kernel
theorem dL_block_4 : decode cL_block 4 = .ok (.invokevirtual 7, 3) := by decide +kernel
theorem dL_block_7 : decode cL_block 7 = .ok (.i2l, 1) := by decide +kernel
theorem dL_block_8 : decode cL_block 8 = .ok (.lastore, 1) := by decide +kernel
theorem dL_block_9 : decode cL_block 9 = .ok (.goto 9, 3) := by decide +kernel
theorem dL_block_12 : decode cL_block 12 = .ok (.astore_n 3, 1) := by decide +kernel
theorem dL_block_13 : decode cL_block 13 = .ok (.iconst 1, 1) := by decide +kernel
theorem dL_block_14 : decode cL_block 14 = .ok (.ireturn, 1) := by decide +kernel
theorem dL_block_15 : decode cL_block 15 = .ok (.astore_n 3, 1) := by decide +kernel
theorem dL_block_16 : decode cL_block 16 = .ok (.iconst 2, 1) := by decide +kernel
theorem dL_block_17 : decode cL_block 17 = .ok (.ireturn, 1) := by decide +kernel
theorem dL_block_18 : decode cL_block 18 = .ok (.iconst 0, 1) := by decide +kernel
theorem dL_block_19 : decode cL_block 19 = .ok (.ireturn, 1) := by decide +kernel
set_option maxRecDepth 20000 in
theorem ggL_wire_X3_wire : GoodIn wsL_wire wsX3_wire := goodIn_ca (goodIn_r _ [6, 7, 8, 9, 10, 11, 12, 5, 13, 14, 15, 16, 17, 18, 19, 20, 21, 22, 23, 24, 25, 26, 27, 28, 29, 30, 31, 32, 33, 34, 35] (by decide +kernel) (by decide +kernel)) (goodIn_sub (fun _ h => List.mem_cons_of_mem _ (List.mem_append_right _ h)) (by decide +kernel))
set_option maxRecDepth 20000 in
theorem gL_wire_X3_wire : GoodIn wsL_wire (wsV RL 17 RX3 yX3_wire wsX3_wire) := goodIn_app (goodIn_of _ (by decide +kernel)) ggL_wire_X3_wire
theorem dL_wire_0 : decode cL_wire 0 = .ok (.aload 4, 2) := by decide +kernel
theorem dL_wire_2 : decode cL_wire 2 = .ok (.iconst 0, 1) := by decide +kernel
theorem dL_wire_3 : decode cL_wire 3 = .ok (.aload_n 0, 1) := by decide +kernel
theorem dL_wire_4 : decode cL_wire 4 = .ok (.iload_n 1, 1) := by decide +kernel
theorem dL_wire_5 : decode cL_wire 5 = .ok (.iload_n 2, 1) := by decide +kernel
theorem dL_wire_6 : decode cL_wire 6 = .ok (.iload_n 3, 1) := by decide +kernel
theorem dL_wire_7 : decode cL_wire 7 = .ok (.invokevirtual 17, 3) := by decide +kernel
theorem dL_wire_10 : decode cL_wire 10 = .ok (.i2l, 1) := by decide +kernel
theorem dL_wire_11 : decode cL_wire 11 = .ok (.lastore, 1) := by decide +kernel
theorem dL_wire_12 : decode cL_wire 12 = .ok (.goto 7, 3) := by decide +kernel
theorem dL_wire_15 : decode cL_wire 15 = .ok (.astore 5, 2) := by decide +kernel
theorem dL_wire_17 : decode cL_wire 17 = .ok (.iconst 1, 1) := by decide +kernel
theorem dL_wire_18 : decode cL_wire 18 = .ok (.ireturn, 1) := by decide +kernel
theorem dL_wire_19 : decode cL_wire 19 = .ok (.iconst 0, 1) := by decide +kernel
theorem dL_wire_20 : decode cL_wire 20 = .ok (.ireturn, 1) := by decide +kernel
set_option maxRecDepth 20000 in
theorem ggL_numbers_X3_numbers : GoodIn wsL_numbers wsX3_numbers := goodIn_ca (goodIn_r _ [6, 7, 8, 9, 10, 11, 5, 12, 13, 14, 15, 16, 17, 18, 19, 20, 21, 22, 23, 24, 25, 26, 27, 28, 29, 30, 31, 32, 33, 34, 35, 36] (by decide +kernel) (by decide +kernel)) (goodIn_sub (fun _ h => List.mem_cons_of_mem _ (List.mem_append_right _ h)) (by decide +kernel))
set_option maxRecDepth 20000 in
theorem gL_numbers_X3_numbers : GoodIn wsL_numbers (wsV RL 21 RX3 yX3_numbers wsX3_numbers) := goodIn_app (goodIn_of _ (by decide +kernel)) ggL_numbers_X3_numbers
theorem dL_numbers_0 : decode cL_numbers 0 = .ok (.aload_n 0, 1) := by decide +kernel
theorem dL_numbers_1 : decode cL_numbers 1 = .ok (.iload_n 1, 1) := by decide +kernel
theorem dL_numbers_2 : decode cL_numbers 2 = .ok (.iload_n 2, 1) := by decide +kernel
theorem dL_numbers_3 : decode cL_numbers 3 = .ok (.iload_n 3, 1) := by decide +kernel
theorem dL_numbers_4 : decode cL_numbers 4 = .ok (.invokevirtual 21, 3) := by decide +kernel
theorem dL_numbers_7 : decode cL_numbers 7 = .ok (.goto 7, 3) := by decide +kernel
theorem dL_numbers_10 : decode cL_numbers 10 = .ok (.astore 4, 2) := by decide +kernel
theorem dL_numbers_12 : decode cL_numbers 12 = .ok (.iconst 1, 1) := by decide +kernel
theorem dL_numbers_13 : decode cL_numbers 13 = .ok (.ireturn, 1) := by decide +kernel
theorem dL_numbers_14 : decode cL_numbers 14 = .ok (.iconst 0, 1) := by decide +kernel
theorem dL_numbers_15 : decode cL_numbers 15 = .ok (.ireturn, 1) := by decide +kernel
set_option maxRecDepth 20000 in
theorem ggL_row_X3_row : GoodIn wsL_row wsX3_row := goodIn_ca (goodIn_ca (goodIn_r _ [7, 8, 9, 10, 11, 12, 13, 14, 15, 16, 6, 17, 18, 19, 20, 21, 22, 23, 24, 25, 26, 27, 28, 29, 30, 31, 32, 33, 34, 35, 36, 37, 38, 39, 40, 41, 42] (by decide +kernel) (by decide +kernel)) (goodIn_sub (fun _ h => List.mem_cons_of_mem _ (List.mem_append_left _ (List.mem_append_right _ h))) (by decide +kernel))) (goodIn_sub (fun _ h => List.mem_cons_of_mem _ (List.mem_append_right _ h)) (by decide +kernel))
set_option maxRecDepth 20000 in
theorem gL_row_X3_row : GoodIn wsL_row (wsV RL 25 RX3 yX3_row wsX3_row) := goodIn_app (goodIn_of _ (by decide +kernel)) ggL_row_X3_row
theorem dL_row_0 : decode cL_row 0 = .ok (.aload 4, 2) := by decide +kernel
theorem dL_row_2 : decode cL_row 2 = .ok (.iconst 0, 1) := by decide +kernel
theorem dL_row_3 : decode cL_row 3 = .ok (.aload_n 0, 1) := by decide +kernel
theorem dL_row_4 : decode cL_row 4 = .ok (.iload_n 1, 1) := by decide +kernel
theorem dL_row_5 : decode cL_row 5 = .ok (.iload_n 2, 1) := by decide +kernel
theorem dL_row_6 : decode cL_row 6 = .ok (.iload_n 3, 1) := by decide +kernel
theorem dL_row_7 : decode cL_row 7 = .ok (.invokevirtual 25, 3) := by decide +kernel
theorem dL_row_10 : decode cL_row 10 = .ok (.i2l, 1) := by decide +kernel
theorem dL_row_11 : decode cL_row 11 = .ok (.lastore, 1) := by decide +kernel
theorem dL_row_12 : decode cL_row 12 = .ok (.goto 11, 3) := by decide +kernel
theorem dL_row_15 : decode cL_row 15 = .ok (.astore 5, 2) := by decide +kernel
theorem dL_row_17 : decode cL_row 17 = .ok (.iconst 1, 1) := by decide +kernel
theorem dL_row_18 : decode cL_row 18 = .ok (.ireturn, 1) := by decide +kernel
theorem dL_row_19 : decode cL_row 19 = .ok (.astore 5, 2) := by decide +kernel
theorem dL_row_21 : decode cL_row 21 = .ok (.iconst 2, 1) := by decide +kernel
theorem dL_row_22 : decode cL_row 22 = .ok (.ireturn, 1) := by decide +kernel
theorem dL_row_23 : decode cL_row 23 = .ok (.iconst 0, 1) := by decide +kernel
theorem dL_row_24 : decode cL_row 24 = .ok (.ireturn, 1) := by decide +kernel
set_option maxRecDepth 20000 in
theorem ggL_safe_X3_safe : GoodIn wsL_safe wsX3_safe := goodIn_ca (goodIn_r _ [6, 7, 8, 9, 10, 5, 11, 12, 13, 14, 15, 16, 17, 18, 19, 20, 21, 22, 23, 24, 25, 26, 27, 28, 29, 30, 31, 32, 33, 34, 35] (by decide +kernel) (by decide +kernel)) (goodIn_sub (fun _ h => List.mem_cons_of_mem _ (List.mem_append_right _ h)) (by decide +kernel))
set_option maxRecDepth 20000 in
theorem gL_safe_X3_safe : GoodIn wsL_safe (wsV RL 28 RX3 yX3_safe wsX3_safe) := goodIn_app (goodIn_of _ (by decide +kernel)) ggL_safe_X3_safe
theorem dL_safe_0 : decode cL_safe 0 = .ok (.aload_n 3, 1) := by decide +kernel
theorem dL_safe_1 : decode cL_safe 1 = .ok (.iconst 0, 1) := by decide +kernel
theorem dL_safe_2 : decode cL_safe 2 = .ok (.aload_n 0, 1) := by decide +kernel
theorem dL_safe_3 : decode cL_safe 3 = .ok (.iload_n 1, 1) := by decide +kernel
theorem dL_safe_4 : decode cL_safe 4 = .ok (.iload_n 2, 1) := by decide +kernel
theorem dL_safe_5 : decode cL_safe 5 = .ok (.invokevirtual 28, 3) := by decide +kernel
theorem dL_safe_8 : decode cL_safe 8 = .ok (.i2l, 1) := by decide +kernel
theorem dL_safe_9 : decode cL_safe 9 = .ok (.lastore, 1) := by decide +kernel
theorem dL_safe_10 : decode cL_safe 10 = .ok (.goto 7, 3) := by decide +kernel
theorem dL_safe_13 : decode cL_safe 13 = .ok (.astore 4, 2) := by decide +kernel
theorem dL_safe_15 : decode cL_safe 15 = .ok (.iconst 1, 1) := by decide +kernel
theorem dL_safe_16 : decode cL_safe 16 = .ok (.ireturn, 1) := by decide +kernel
theorem dL_safe_17 : decode cL_safe 17 = .ok (.iconst 0, 1) := by decide +kernel
theorem dL_safe_18 : decode cL_safe 18 = .ok (.ireturn, 1) := by decide +kernel
set_option maxRecDepth 20000 in
theorem ggL_point_X3_point : GoodIn wsL_point wsX3_point := goodIn_ca (goodIn_r _ [6, 7, 8, 9, 10, 11, 5, 12, 13, 14, 15, 16, 17, 18, 19, 20, 21] (by decide +kernel) (by decide +kernel)) (goodIn_sub (fun _ h => List.mem_cons_of_mem _ (List.mem_append_right _ h)) (by decide +kernel))
set_option maxRecDepth 20000 in
theorem gL_point_X3_point : GoodIn wsL_point (wsV RL 32 RX3 yX3_point wsX3_point) := goodIn_app (goodIn_of _ (by decide +kernel)) ggL_point_X3_point
theorem dL_point_0 : decode cL_point 0 = .ok (.aload_n 3, 1) := by decide +kernel
