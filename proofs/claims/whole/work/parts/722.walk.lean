set_option maxRecDepth 20000 in
theorem ggX11_seasonStep_X11_inWords : GoodIn wsX11_seasonStep wsX11_inWords := goodIn_r _ [9, 10, 11, 12, 13, 14, 15, 16, 17, 18, 19, 20, 21, 22, 23, 24, 25, 26, 27, 28, 29, 30, 31, 32, 33, 34, 35, 36, 37, 38, 39, 40, 41, 42, 43, 44, 45, 46, 47, 48, 49, 50, 51, 52, 53, 54, 55, 56, 57, 58, 59, 60, 61, 62, 63, 64, 8, 65, 66, 67, 135, 136, 137, 138, 139, 140, 141, 142, 143, 144, 145, 146, 147, 148, 149, 150, 151, 152, 153, 154, 155, 156, 157, 158, 159, 160, 161, 162, 163, 164, 165, 166, 167, 168, 169, 170, 171, 172] (by decide +kernel) (by decide +kernel)
set_option maxRecDepth 20000 in
theorem gX11_seasonStep_X11_inWords : GoodIn wsX11_seasonStep (wsV RX11 160 RX11 yX11_inWords wsX11_inWords) := goodIn_app (goodIn_of _ (by decide +kernel)) ggX11_seasonStep_X11_inWords
set_option maxRecDepth 20000 in
theorem ggX11_seasonStep_X11_fails : GoodIn wsX11_seasonStep wsX11_fails := goodIn_r _ [71, 72, 10, 12, 73, 135, 136, 137, 138, 139, 140, 141, 142, 143, 144, 145, 146, 147, 148, 149, 150, 151, 152, 153, 154, 155, 156, 157, 158, 159, 160, 161, 162, 163, 164, 165, 166, 167, 168, 169, 170, 171, 172] (by decide +kernel) (by decide +kernel)
set_option maxRecDepth 20000 in
theorem gX11_seasonStep_X11_fails : GoodIn wsX11_seasonStep (wsV RX11 157 RX11 yX11_fails wsX11_fails) := goodIn_app (goodIn_of _ (by decide +kernel)) ggX11_seasonStep_X11_fails
set_option maxRecDepth 20000 in
theorem ggX11_seasonStep_X11_ahead : GoodIn wsX11_seasonStep wsX11_ahead := goodIn_r _ [77, 11, 12, 78, 10, 79, 80, 81, 82, 83, 62, 63, 64, 8, 65, 66, 67, 84, 85, 86, 87, 88, 89, 135, 136, 137, 138, 139, 140, 141, 142, 143, 144, 145, 146, 147, 148, 149, 150, 151, 152, 153, 154, 155, 156, 157, 158, 159, 160, 161, 162, 163, 164, 165, 166, 167, 168, 169, 170, 171, 172] (by decide +kernel) (by decide +kernel)
set_option maxRecDepth 20000 in
theorem gX11_seasonStep_X11_ahead : GoodIn wsX11_seasonStep (wsV RX11 151 RX11 yX11_ahead wsX11_ahead) := goodIn_app (goodIn_of _ (by decide +kernel)) ggX11_seasonStep_X11_ahead
set_option maxRecDepth 20000 in
theorem ggX11_seasonStep_X11_seasonOrder : GoodIn wsX11_seasonStep wsX11_seasonOrder := goodIn_r _ [93, 94, 95, 96, 8, 97, 10, 78, 1, 68, 69, 70, 71, 72, 12, 73, 74, 75, 76, 77, 11, 79, 80, 81, 82, 83, 62, 63, 64, 65, 66, 67, 84, 85, 86, 87, 88, 89, 98, 99, 100, 101, 102, 103, 104, 105, 106, 107, 108, 109, 5, 6, 7, 9, 13, 14, 15, 16, 17, 18, 19, 20, 21, 22, 23, 24, 25, 26, 27, 28, 29, 30, 31, 32, 33, 34, 35, 36, 37, 38, 39, 40, 41, 42, 43, 44, 45, 46, 47, 48, 49, 50, 51, 52, 53, 54, 55, 56, 57, 58, 59, 60, 61, 110, 111, 112, 113, 114, 115, 116, 117, 118, 119, 120, 121, 122, 123, 124, 125, 126, 127, 128, 129, 130, 135, 136, 137, 138, 139, 140, 141, 142, 143, 144, 145, 146, 147, 148, 149, 150, 151, 152, 153, 154, 155, 156, 157, 158, 159, 160, 161, 162, 163, 164, 165, 166, 167, 168, 169, 170, 171, 172] (by decide +kernel) (by decide +kernel)
set_option maxRecDepth 20000 in
theorem gX11_seasonStep_X11_seasonOrder : GoodIn wsX11_seasonStep (wsV RX11 246 RX11 yX11_seasonOrder wsX11_seasonOrder) := goodIn_app (goodIn_of _ (by decide +kernel)) ggX11_seasonStep_X11_seasonOrder
set_option maxRecDepth 20000 in
theorem ggX11_seasonStep_X11_wantSign : GoodIn wsX11_seasonStep wsX11_wantSign := goodIn_r _ [134, 127, 128, 129, 8, 130, 10, 78, 68, 69, 70, 71, 72, 12, 73, 74, 75, 76, 77, 11, 79, 80, 81, 82, 83, 62, 63, 64, 65, 66, 67, 84, 85, 86, 87, 88, 89, 135, 136, 137, 138, 139, 140, 141, 142, 143, 144, 145, 146, 147, 148, 149, 150, 151, 152, 153, 154, 155, 156, 157, 158, 159, 160, 161, 162, 163, 164, 165, 166, 167, 168, 169, 170, 171, 172] (by decide +kernel) (by decide +kernel)
set_option maxRecDepth 20000 in
theorem gX11_seasonStep_X11_wantSign : GoodIn wsX11_seasonStep (wsV RX11 215 RX11 yX11_wantSign wsX11_wantSign) := goodIn_app (goodIn_of _ (by decide +kernel)) ggX11_seasonStep_X11_wantSign
theorem dX11_seasonStep_0 : decode cX11_seasonStep 0 = .ok (.aload_n 0, 1) := by decide +kernel
theorem dX11_seasonStep_1 : decode cX11_seasonStep 1 = .ok (.ldc 168, 2) := by decide +kernel
theorem dX11_seasonStep_3 : decode cX11_seasonStep 3 = .ok (.invokevirtual 160, 3) := by decide +kernel
theorem dX11_seasonStep_6 : decode cX11_seasonStep 6 = .ok (.istore_n 1, 1) := by decide +kernel
theorem dX11_seasonStep_7 : decode cX11_seasonStep 7 = .ok (.aload_n 0, 1) := by decide +kernel
theorem dX11_seasonStep_8 : decode cX11_seasonStep 8 = .ok (.getfield 7, 3) := by decide +kernel
theorem dX11_seasonStep_11 : decode cX11_seasonStep 11 = .ok (.sipush 4163, 3) := by decide +kernel
theorem dX11_seasonStep_14 : decode cX11_seasonStep 14 = .ok (.iaload, 1) := by decide +kernel
theorem dX11_seasonStep_15 : decode cX11_seasonStep 15 = .ok (.istore_n 2, 1) := by decide +kernel
theorem dX11_seasonStep_16 : decode cX11_seasonStep 16 = .ok (.sipush 4830, 3) := by decide +kernel
theorem dX11_seasonStep_19 : decode cX11_seasonStep 19 = .ok (.bipush 6, 2) := by decide +kernel
theorem dX11_seasonStep_21 : decode cX11_seasonStep 21 = .ok (.iload_n 2, 1) := by decide +kernel
theorem dX11_seasonStep_22 : decode cX11_seasonStep 22 = .ok (.imul, 1) := by decide +kernel
theorem dX11_seasonStep_23 : decode cX11_seasonStep 23 = .ok (.iadd, 1) := by decide +kernel
theorem dX11_seasonStep_24 : decode cX11_seasonStep 24 = .ok (.istore_n 3, 1) := by decide +kernel
theorem dX11_seasonStep_25 : decode cX11_seasonStep 25 = .ok (.iload_n 1, 1) := by decide +kernel
theorem dX11_seasonStep_26 : decode cX11_seasonStep 26 = .ok (.bipush 23, 2) := by decide +kernel
theorem dX11_seasonStep_28 : decode cX11_seasonStep 28 = .ok (.if_icmp .eq 9, 3) := by decide +kernel
theorem dX11_seasonStep_31 : decode cX11_seasonStep 31 = .ok (.iload_n 1, 1) := by decide +kernel
theorem dX11_seasonStep_32 : decode cX11_seasonStep 32 = .ok (.bipush 24, 2) := by decide +kernel
theorem dX11_seasonStep_34 : decode cX11_seasonStep 34 = .ok (.if_icmp .ne 7, 3) := by decide +kernel
theorem dX11_seasonStep_37 : decode cX11_seasonStep 37 = .ok (.iconst 1, 1) := by decide +kernel
theorem dX11_seasonStep_38 : decode cX11_seasonStep 38 = .ok (.goto 4, 3) := by decide +kernel
theorem dX11_seasonStep_41 : decode cX11_seasonStep 41 = .ok (.iconst 0, 1) := by decide +kernel
theorem dX11_seasonStep_42 : decode cX11_seasonStep 42 = .ok (.istore 4, 2) := by decide +kernel
theorem dX11_seasonStep_44 : decode cX11_seasonStep 44 = .ok (.iload_n 1, 1) := by decide +kernel
theorem dX11_seasonStep_45 : decode cX11_seasonStep 45 = .ok (.bipush 14, 2) := by decide +kernel
theorem dX11_seasonStep_47 : decode cX11_seasonStep 47 = .ok (.if_icmp .lt 28, 3) := by decide +kernel
theorem dX11_seasonStep_50 : decode cX11_seasonStep 50 = .ok (.iload_n 1, 1) := by decide +kernel
theorem dX11_seasonStep_51 : decode cX11_seasonStep 51 = .ok (.bipush 26, 2) := by decide +kernel
theorem dX11_seasonStep_53 : decode cX11_seasonStep 53 = .ok (.if_icmp .gt 22, 3) := by decide +kernel
theorem dX11_seasonStep_56 : decode cX11_seasonStep 56 = .ok (.iload_n 1, 1) := by decide +kernel
theorem dX11_seasonStep_57 : decode cX11_seasonStep 57 = .ok (.bipush 22, 2) := by decide +kernel
theorem dX11_seasonStep_59 : decode cX11_seasonStep 59 = .ok (.if_icmp .eq 16, 3) := by decide +kernel
theorem dX11_seasonStep_62 : decode cX11_seasonStep 62 = .ok (.iload_n 1, 1) := by decide +kernel
theorem dX11_seasonStep_63 : decode cX11_seasonStep 63 = .ok (.bipush 25, 2) := by decide +kernel
theorem dX11_seasonStep_65 : decode cX11_seasonStep 65 = .ok (.if_icmp .ne 16, 3) := by decide +kernel
theorem dX11_seasonStep_68 : decode cX11_seasonStep 68 = .ok (.aload_n 0, 1) := by decide +kernel
theorem dX11_seasonStep_69 : decode cX11_seasonStep 69 = .ok (.getfield 240, 3) := by decide +kernel
theorem dX11_seasonStep_72 : decode cX11_seasonStep 72 = .ok (.ifCond .ne 9, 3) := by decide +kernel
theorem dX11_seasonStep_75 : decode cX11_seasonStep 75 = .ok (.aload_n 0, 1) := by decide +kernel
theorem dX11_seasonStep_76 : decode cX11_seasonStep 76 = .ok (.iconst 2, 1) := by decide +kernel
theorem dX11_seasonStep_77 : decode cX11_seasonStep 77 = .ok (.invokevirtual 157, 3) := by decide +kernel
theorem dX11_seasonStep_80 : decode cX11_seasonStep 80 = .ok (.ireturn, 1) := by decide +kernel
theorem dX11_seasonStep_81 : decode cX11_seasonStep 81 = .ok (.iload_n 1, 1) := by decide +kernel
theorem dX11_seasonStep_82 : decode cX11_seasonStep 82 = .ok (.bipush 25, 2) := by decide +kernel
theorem dX11_seasonStep_84 : decode cX11_seasonStep 84 = .ok (.if_icmp .eq 19, 3) := by decide +kernel
theorem dX11_seasonStep_87 : decode cX11_seasonStep 87 = .ok (.aload_n 0, 1) := by decide +kernel
theorem dX11_seasonStep_88 : decode cX11_seasonStep 88 = .ok (.getfield 243, 3) := by decide +kernel
theorem dX11_seasonStep_91 : decode cX11_seasonStep 91 = .ok (.bipush 30, 2) := by decide +kernel
theorem dX11_seasonStep_93 : decode cX11_seasonStep 93 = .ok (.if_icmp .ne 10, 3) := by decide +kernel
theorem dX11_seasonStep_96 : decode cX11_seasonStep 96 = .ok (.aload_n 0, 1) := by decide +kernel
theorem dX11_seasonStep_97 : decode cX11_seasonStep 97 = .ok (.bipush 6, 2) := by decide +kernel
theorem dX11_seasonStep_99 : decode cX11_seasonStep 99 = .ok (.invokevirtual 157, 3) := by decide +kernel
theorem dX11_seasonStep_102 : decode cX11_seasonStep 102 = .ok (.ireturn, 1) := by decide +kernel
theorem dX11_seasonStep_103 : decode cX11_seasonStep 103 = .ok (.iload 4, 2) := by decide +kernel
theorem dX11_seasonStep_105 : decode cX11_seasonStep 105 = .ok (.ifCond .eq 18, 3) := by decide +kernel
theorem dX11_seasonStep_108 : decode cX11_seasonStep 108 = .ok (.aload_n 0, 1) := by decide +kernel
theorem dX11_seasonStep_109 : decode cX11_seasonStep 109 = .ok (.getfield 240, 3) := by decide +kernel
theorem dX11_seasonStep_112 : decode cX11_seasonStep 112 = .ok (.iconst 3, 1) := by decide +kernel
theorem dX11_seasonStep_113 : decode cX11_seasonStep 113 = .ok (.if_icmp .ne 10, 3) := by decide +kernel
theorem dX11_seasonStep_116 : decode cX11_seasonStep 116 = .ok (.aload_n 0, 1) := by decide +kernel
theorem dX11_seasonStep_117 : decode cX11_seasonStep 117 = .ok (.bipush 7, 2) := by decide +kernel
theorem dX11_seasonStep_119 : decode cX11_seasonStep 119 = .ok (.invokevirtual 157, 3) := by decide +kernel
theorem dX11_seasonStep_122 : decode cX11_seasonStep 122 = .ok (.ireturn, 1) := by decide +kernel
theorem dX11_seasonStep_123 : decode cX11_seasonStep 123 = .ok (.aload_n 0, 1) := by decide +kernel
theorem dX11_seasonStep_124 : decode cX11_seasonStep 124 = .ok (.dup, 1) := by decide +kernel
theorem dX11_seasonStep_125 : decode cX11_seasonStep 125 = .ok (.getfield 243, 3) := by decide +kernel
theorem dX11_seasonStep_128 : decode cX11_seasonStep 128 = .ok (.iload_n 1, 1) := by decide +kernel
theorem dX11_seasonStep_129 : decode cX11_seasonStep 129 = .ok (.bipush 25, 2) := by decide +kernel
theorem dX11_seasonStep_131 : decode cX11_seasonStep 131 = .ok (.if_icmp .ne 7, 3) := by decide +kernel
theorem dX11_seasonStep_134 : decode cX11_seasonStep 134 = .ok (.iconst 0, 1) := by decide +kernel
theorem dX11_seasonStep_135 : decode cX11_seasonStep 135 = .ok (.goto 4, 3) := by decide +kernel
theorem dX11_seasonStep_138 : decode cX11_seasonStep 138 = .ok (.iconst 1, 1) := by decide +kernel
theorem dX11_seasonStep_139 : decode cX11_seasonStep 139 = .ok (.iadd, 1) := by decide +kernel
theorem dX11_seasonStep_140 : decode cX11_seasonStep 140 = .ok (.putfield 243, 3) := by decide +kernel
theorem dX11_seasonStep_143 : decode cX11_seasonStep 143 = .ok (.aload_n 0, 1) := by decide +kernel
theorem dX11_seasonStep_144 : decode cX11_seasonStep 144 = .ok (.getfield 7, 3) := by decide +kernel
theorem dX11_seasonStep_147 : decode cX11_seasonStep 147 = .ok (.iload_n 3, 1) := by decide +kernel
theorem dX11_seasonStep_148 : decode cX11_seasonStep 148 = .ok (.iload_n 1, 1) := by decide +kernel
theorem dX11_seasonStep_149 : decode cX11_seasonStep 149 = .ok (.iastore, 1) := by decide +kernel
theorem dX11_seasonStep_150 : decode cX11_seasonStep 150 = .ok (.iconst 1, 1) := by decide +kernel
theorem dX11_seasonStep_151 : decode cX11_seasonStep 151 = .ok (.istore 5, 2) := by decide +kernel
theorem dX11_seasonStep_153 : decode cX11_seasonStep 153 = .ok (.iload 5, 2) := by decide +kernel
theorem dX11_seasonStep_155 : decode cX11_seasonStep 155 = .ok (.bipush 6, 2) := by decide +kernel
theorem dX11_seasonStep_157 : decode cX11_seasonStep 157 = .ok (.if_icmp .ge 19, 3) := by decide +kernel
theorem dX11_seasonStep_160 : decode cX11_seasonStep 160 = .ok (.aload_n 0, 1) := by decide +kernel
theorem dX11_seasonStep_161 : decode cX11_seasonStep 161 = .ok (.getfield 7, 3) := by decide +kernel
theorem dX11_seasonStep_164 : decode cX11_seasonStep 164 = .ok (.iload_n 3, 1) := by decide +kernel
theorem dX11_seasonStep_165 : decode cX11_seasonStep 165 = .ok (.iload 5, 2) := by decide +kernel
theorem dX11_seasonStep_167 : decode cX11_seasonStep 167 = .ok (.iadd, 1) := by decide +kernel
theorem dX11_seasonStep_168 : decode cX11_seasonStep 168 = .ok (.iconst 0, 1) := by decide +kernel
theorem dX11_seasonStep_169 : decode cX11_seasonStep 169 = .ok (.iastore, 1) := by decide +kernel
theorem dX11_seasonStep_170 : decode cX11_seasonStep 170 = .ok (.iinc 5 1, 3) := by decide +kernel
theorem dX11_seasonStep_173 : decode cX11_seasonStep 173 = .ok (.goto (-20), 3) := by decide +kernel
theorem dX11_seasonStep_176 : decode cX11_seasonStep 176 = .ok (.aload_n 0, 1) := by decide +kernel
theorem dX11_seasonStep_177 : decode cX11_seasonStep 177 = .ok (.getfield 7, 3) := by decide +kernel
theorem dX11_seasonStep_180 : decode cX11_seasonStep 180 = .ok (.sipush 4163, 3) := by decide +kernel
theorem dX11_seasonStep_183 : decode cX11_seasonStep 183 = .ok (.dup2, 1) := by decide +kernel
theorem dX11_seasonStep_184 : decode cX11_seasonStep 184 = .ok (.iaload, 1) := by decide +kernel
theorem dX11_seasonStep_185 : decode cX11_seasonStep 185 = .ok (.iconst 1, 1) := by decide +kernel
theorem dX11_seasonStep_186 : decode cX11_seasonStep 186 = .ok (.iadd, 1) := by decide +kernel
theorem dX11_seasonStep_187 : decode cX11_seasonStep 187 = .ok (.iastore, 1) := by decide +kernel
theorem dX11_seasonStep_188 : decode cX11_seasonStep 188 = .ok (.aload_n 0, 1) := by decide +kernel
theorem dX11_seasonStep_189 : decode cX11_seasonStep 189 = .ok (.invokevirtual 151, 3) := by decide +kernel
theorem dX11_seasonStep_192 : decode cX11_seasonStep 192 = .ok (.aload_n 0, 1) := by decide +kernel
theorem dX11_seasonStep_193 : decode cX11_seasonStep 193 = .ok (.iload_n 1, 1) := by decide +kernel
theorem dX11_seasonStep_194 : decode cX11_seasonStep 194 = .ok (.iload_n 3, 1) := by decide +kernel
theorem dX11_seasonStep_195 : decode cX11_seasonStep 195 = .ok (.invokevirtual 246, 3) := by decide +kernel
theorem dX11_seasonStep_198 : decode cX11_seasonStep 198 = .ok (.ifCond .ne 5, 3) := by decide +kernel
theorem dX11_seasonStep_201 : decode cX11_seasonStep 201 = .ok (.iconst 0, 1) := by decide +kernel
theorem dX11_seasonStep_202 : decode cX11_seasonStep 202 = .ok (.ireturn, 1) := by decide +kernel
theorem dX11_seasonStep_203 : decode cX11_seasonStep 203 = .ok (.iload 4, 2) := by decide +kernel
theorem dX11_seasonStep_205 : decode cX11_seasonStep 205 = .ok (.ifCond .eq 23, 3) := by decide +kernel
theorem dX11_seasonStep_208 : decode cX11_seasonStep 208 = .ok (.aload_n 0, 1) := by decide +kernel
theorem dX11_seasonStep_209 : decode cX11_seasonStep 209 = .ok (.getfield 44, 3) := by decide +kernel
theorem dX11_seasonStep_212 : decode cX11_seasonStep 212 = .ok (.aload_n 0, 1) := by decide +kernel
theorem dX11_seasonStep_213 : decode cX11_seasonStep 213 = .ok (.getfield 240, 3) := by decide +kernel
theorem dX11_seasonStep_216 : decode cX11_seasonStep 216 = .ok (.iload_n 2, 1) := by decide +kernel
theorem dX11_seasonStep_217 : decode cX11_seasonStep 217 = .ok (.iastore, 1) := by decide +kernel
theorem dX11_seasonStep_218 : decode cX11_seasonStep 218 = .ok (.aload_n 0, 1) := by decide +kernel
theorem dX11_seasonStep_219 : decode cX11_seasonStep 219 = .ok (.dup, 1) := by decide +kernel
theorem dX11_seasonStep_220 : decode cX11_seasonStep 220 = .ok (.getfield 240, 3) := by decide +kernel
theorem dX11_seasonStep_223 : decode cX11_seasonStep 223 = .ok (.iconst 1, 1) := by decide +kernel
theorem dX11_seasonStep_224 : decode cX11_seasonStep 224 = .ok (.iadd, 1) := by decide +kernel
theorem dX11_seasonStep_225 : decode cX11_seasonStep 225 = .ok (.putfield 240, 3) := by decide +kernel
theorem dX11_seasonStep_228 : decode cX11_seasonStep 228 = .ok (.iload_n 1, 1) := by decide +kernel
theorem dX11_seasonStep_229 : decode cX11_seasonStep 229 = .ok (.bipush 25, 2) := by decide +kernel
theorem dX11_seasonStep_231 : decode cX11_seasonStep 231 = .ok (.if_icmp .ne 54, 3) := by decide +kernel
theorem dX11_seasonStep_234 : decode cX11_seasonStep 234 = .ok (.aload_n 0, 1) := by decide +kernel
theorem dX11_seasonStep_235 : decode cX11_seasonStep 235 = .ok (.dup, 1) := by decide +kernel
theorem dX11_seasonStep_236 : decode cX11_seasonStep 236 = .ok (.getfield 240, 3) := by decide +kernel
theorem dX11_seasonStep_239 : decode cX11_seasonStep 239 = .ok (.iconst 1, 1) := by decide +kernel
theorem dX11_seasonStep_240 : decode cX11_seasonStep 240 = .ok (.isub, 1) := by decide +kernel
theorem dX11_seasonStep_241 : decode cX11_seasonStep 241 = .ok (.putfield 240, 3) := by decide +kernel
theorem dX11_seasonStep_244 : decode cX11_seasonStep 244 = .ok (.aload_n 0, 1) := by decide +kernel
theorem dX11_seasonStep_245 : decode cX11_seasonStep 245 = .ok (.getfield 7, 3) := by decide +kernel
theorem dX11_seasonStep_248 : decode cX11_seasonStep 248 = .ok (.iload_n 3, 1) := by decide +kernel
theorem dX11_seasonStep_249 : decode cX11_seasonStep 249 = .ok (.iconst 4, 1) := by decide +kernel
theorem dX11_seasonStep_250 : decode cX11_seasonStep 250 = .ok (.iadd, 1) := by decide +kernel
theorem dX11_seasonStep_251 : decode cX11_seasonStep 251 = .ok (.aload_n 0, 1) := by decide +kernel
theorem dX11_seasonStep_252 : decode cX11_seasonStep 252 = .ok (.getfield 44, 3) := by decide +kernel
theorem dX11_seasonStep_255 : decode cX11_seasonStep 255 = .ok (.aload_n 0, 1) := by decide +kernel
theorem dX11_seasonStep_256 : decode cX11_seasonStep 256 = .ok (.getfield 240, 3) := by decide +kernel
theorem dX11_seasonStep_259 : decode cX11_seasonStep 259 = .ok (.iaload, 1) := by decide +kernel
theorem dX11_seasonStep_260 : decode cX11_seasonStep 260 = .ok (.iastore, 1) := by decide +kernel
theorem dX11_seasonStep_261 : decode cX11_seasonStep 261 = .ok (.aload_n 0, 1) := by decide +kernel
theorem dX11_seasonStep_262 : decode cX11_seasonStep 262 = .ok (.getfield 7, 3) := by decide +kernel
theorem dX11_seasonStep_265 : decode cX11_seasonStep 265 = .ok (.sipush 4830, 3) := by decide +kernel
theorem dX11_seasonStep_268 : decode cX11_seasonStep 268 = .ok (.bipush 6, 2) := by decide +kernel
theorem dX11_seasonStep_270 : decode cX11_seasonStep 270 = .ok (.aload_n 0, 1) := by decide +kernel
theorem dX11_seasonStep_271 : decode cX11_seasonStep 271 = .ok (.getfield 44, 3) := by decide +kernel
theorem dX11_seasonStep_274 : decode cX11_seasonStep 274 = .ok (.aload_n 0, 1) := by decide +kernel
theorem dX11_seasonStep_275 : decode cX11_seasonStep 275 = .ok (.getfield 240, 3) := by decide +kernel
theorem dX11_seasonStep_278 : decode cX11_seasonStep 278 = .ok (.iaload, 1) := by decide +kernel
theorem dX11_seasonStep_279 : decode cX11_seasonStep 279 = .ok (.imul, 1) := by decide +kernel
theorem dX11_seasonStep_280 : decode cX11_seasonStep 280 = .ok (.iadd, 1) := by decide +kernel
theorem dX11_seasonStep_281 : decode cX11_seasonStep 281 = .ok (.iconst 4, 1) := by decide +kernel
theorem dX11_seasonStep_282 : decode cX11_seasonStep 282 = .ok (.iadd, 1) := by decide +kernel
theorem dX11_seasonStep_283 : decode cX11_seasonStep 283 = .ok (.iload_n 2, 1) := by decide +kernel
theorem dX11_seasonStep_284 : decode cX11_seasonStep 284 = .ok (.iastore, 1) := by decide +kernel
theorem dX11_seasonStep_285 : decode cX11_seasonStep 285 = .ok (.aload_n 0, 1) := by decide +kernel
theorem dX11_seasonStep_286 : decode cX11_seasonStep 286 = .ok (.bipush 59, 2) := by decide +kernel
theorem dX11_seasonStep_288 : decode cX11_seasonStep 288 = .ok (.invokevirtual 215, 3) := by decide +kernel
theorem dX11_seasonStep_291 : decode cX11_seasonStep 291 = .ok (.ireturn, 1) := by decide +kernel
abbrev rmX11_seasonStep : Room := { frames := 10, cells := 0, slots := 0, locals := 220 }
set_option maxHeartbeats 4000000 in
set_option maxRecDepth 100000 in
theorem kX11_seasonStep (S : Nat → Nat) (l : Launch) (D : va_G) (cy : Nat → ClassId) (h0 : Nat) (a0 : Nat → Nat) (s0 : Rc) (res : Int32 × Rc) (h : fX11_seasonStep s0 = some res) : CZ2 S l D cy yX11_seasonStep wsX11_seasonStep rmX11_seasonStep [.ref h0] (flat [WX11 cy h0 a0 s0]) (flat [WX11 cy h0 a0 res.2]) res.1 := by
  refine CZ2.of (cc := cX11_seasonStep) (maxL := 6) (by decide) rfl (Nat.le_of_ble_eq_true rfl) ?_
  intro p e s m args below meth c A QQ ls E hX hr
  obtain ⟨hx, hb, hml, hown, hts, hK, hN, hP, hD, hA, hl⟩ := E
  have hret : ∀ (pc : Nat) (H : Heap) (locs : List Loc) (ls : Array Slot) (u : Int32 × Rc), u = res → va_P D vwCl (flat [WX11 cy h0 a0 u.2]) H → va_D A (flat [WX11 cy h0 a0 u.2]) → va_S A s.heap H locs → isb u.1 = true → decode cX11_seasonStep pc = .ok (.ireturn, 1) → W p l e rmX11_seasonStep s m args below meth c H locs 0 0 QQ (F0 m pc ls [.int u.1]) := by
    intro pc H locs ls u hu hP hD hS hz hd; subst hu; exact hr pc H locs ls _ rfl hP hD hS hz hd
  clear hr
  have hl : lv_has ls 6 [(0, .ref h0)] := hl
  have hinX11 : ∀ w ∈ wsX110, w ∈ wsX11_seasonStep := fun _ h => List.mem_cons_of_mem _ (List.mem_append_right _ h)
  unfold fX11_seasonStep at h
  suffices key : ∀ (H : Heap) (locs : List Loc), va_P D vwCl (flat [WX11 cy h0 a0 s0]) H → va_S A s.heap H locs → W p l e rmX11_seasonStep s m args below meth c H locs 0 0 QQ (F0 m 0 ls []) from key _ _ hP va_S.rf
  clear hP
  intro H locs hP hS
  have J228 : ∀ (y228_1 : Int32) (y228_2 : Int32) (y228_3 : Int32) (t228_0 : Rc) (H : Heap) (locs : List Loc) (ls : Array Slot), lv_has ls 6 [(0, .ref h0), (1, .int y228_1), (2, .int y228_2), (3, .int y228_3)] → va_P D vwCl (flat [WX11 cy h0 a0 t228_0]) H → va_D A (flat [WX11 cy h0 a0 t228_0]) → va_S A s.heap H locs → fX11_seasonStep_J228 y228_1 y228_2 y228_3 t228_0 = some res → W p l e rmX11_seasonStep s m args below meth c H locs 0 0 QQ (F0 m 228 ls []) := by
    intro y228_1 y228_2 y228_3 t228_0 H locs ls hl hP hD hS h
    unfold fX11_seasonStep_J228 at h
    refine lv_iload_n hx hb dX11_seasonStep_228 rfl (lv_at hl 1 rfl) ?_
    refine lv_bipush (v := 25) hx hb dX11_seasonStep_229 (by decide) ?_
    refine lv_icmp_ne (tgt := 285) hx hb dX11_seasonStep_231 (by decide) (fun c1 => ?_) (fun c1 => ?_)
    · replace h := (if_neg c1).symm.trans h
      refine lv_aload_n hx hb dX11_seasonStep_285 rfl (lv_at hl 0 rfl) ?_
      refine lv_bipush (v := 59) hx hb dX11_seasonStep_286 (by decide) ?_
      obtain ⟨r2, hr2, h⟩ := bd_elim h
      refine ca_z (w' := [WX11 cy h0 a0 r2.2]) (rn_V (As := [.int (59 : Int32)]) (rest := []) ⟨hx, hb, hml, hown, hts⟩ (kX11_wantSign l D cy h0 a0 t228_0 (59 : Int32) r2 hr2 H.size) (cwV 1 hts gX11_seasonStep_X11_wantSign rfl rfl rfl (by decide +kernel) ⟨Nat.le_of_ble_eq_true rfl, Nat.le_of_ble_eq_true rfl⟩) hK hN hP hD [0] rfl rfl (ci := 11) (q0 := 0) rfl rfl rfl rfl hl.1 rfl (Nat.le_of_ble_eq_true rfl) dX11_seasonStep_288 ⟨Nat.le_refl 0, Nat.le_refl 0⟩) hP hD hS hA [0] ⟨rfl, rfl, rfl, rfl⟩ (fun b3 H locs hP hD hS => ?_)
      exact hret 291 H locs ls (r2.1, r2.2) (Option.some.inj h) hP hD hS b3 dX11_seasonStep_291
    · replace h := (if_pos c1).symm.trans h
      refine lv_aload_n hx hb dX11_seasonStep_234 rfl (lv_at hl 0 rfl) ?_
      refine lv_dup hx hb dX11_seasonStep_235 rfl ?_
      refine va_get (D := D) (ci := 11) (v := .int (gi t228_0 22)) (C := RX11) (T := TX11) (N := 38) hx hb hts hinX11 hown hK hP 0 rfl rfl 22 (by decide) (hts (.fieldLink RX11 240 "KneeBenchModel" "depth" "I") (List.mem_of_getElem? (i := 2) rfl)) (fun _ h9 => h9) rfl dX11_seasonStep_236 ?_
      refine lv_iconst (v := 1) hx hb dX11_seasonStep_239 (by decide) ?_
      refine lv_isub hx hb dX11_seasonStep_240 ?_
      obtain ⟨s0_4, es, h⟩ := lt_elim h
      refine va_put (D := D) (ci := 11) (v := .int ((gi t228_0 22) - (1 : Int32))) (ty := .int) (C := RX11) (T := TX11) (N := 38) hx hb hts hinX11 tyX11 tyX11_ok nmX11 hown hK hP hD hS 0 rfl rfl 22 (by decide) (hts (.fieldLink RX11 240 "KneeBenchModel" "depth" "I") (List.mem_of_getElem? (i := 2) rfl)) (fun _ h9 => h9) rfl (by decide +kernel) rfl rfl (Nat.le_of_ble_eq_true rfl) dX11_seasonStep_241 (fun H locs hP hD hS => ?_)
      have hP : va_P D vwCl (flat [WX11 cy h0 a0 s0_4]) H := by rw [es]; exact hP
      have hD : va_D A (flat [WX11 cy h0 a0 s0_4]) := by rw [es]; exact hD
      clear es
      refine lv_aload_n hx hb dX11_seasonStep_244 rfl (lv_at hl 0 rfl) ?_
      refine va_get (D := D) (ci := 11) (v := .ref (a0 0)) (C := RX11) (T := TX11) (N := 38) hx hb hts hinX11 hown hK hP 0 rfl rfl 0 (by decide) (hts (.fieldLink RX11 7 "KneeBenchModel" "at" "[I") (List.mem_of_getElem? (i := 1) rfl)) (fun _ h9 => h9) rfl dX11_seasonStep_245 ?_
      refine lv_iload_n hx hb dX11_seasonStep_248 rfl (lv_at hl 3 rfl) ?_
      refine lv_iconst (v := 4) hx hb dX11_seasonStep_249 (by decide) ?_
      refine lv_iadd hx hb dX11_seasonStep_250 ?_
      refine lv_aload_n hx hb dX11_seasonStep_251 rfl (lv_at hl 0 rfl) ?_
      refine va_get (D := D) (ci := 11) (v := .ref (a0 21)) (C := RX11) (T := TX11) (N := 38) hx hb hts hinX11 hown hK hP 0 rfl rfl 21 (by decide) (hts (.fieldLink RX11 44 "KneeBenchModel" "opened" "[I") (List.mem_of_getElem? (i := 4) rfl)) (fun _ h9 => h9) rfl dX11_seasonStep_252 ?_
      refine lv_aload_n hx hb dX11_seasonStep_255 rfl (lv_at hl 0 rfl) ?_
      refine va_get (D := D) (ci := 11) (v := .int (gi s0_4 22)) (C := RX11) (T := TX11) (N := 38) hx hb hts hinX11 hown hK hP 0 rfl rfl 22 (by decide) (hts (.fieldLink RX11 240 "KneeBenchModel" "depth" "I") (List.mem_of_getElem? (i := 2) rfl)) (fun _ h9 => h9) rfl dX11_seasonStep_256 ?_
      obtain ⟨g5, h⟩ := gd_elim h
      refine va_iald hx hb hK hP 8 1 rfl rfl (inb_in g5) dX11_seasonStep_259 ?_
      obtain ⟨g6, h⟩ := gd_elim h
      obtain ⟨s0_7, es, h⟩ := lt_elim h
      refine va_iast hx hb hK hP hD hS 1 1 rfl rfl (inb_in g6) dX11_seasonStep_260 (fun H locs hP hD hS => ?_)
      have hP : va_P D vwCl (flat [WX11 cy h0 a0 s0_7]) H := by rw [es]; exact hP
      have hD : va_D A (flat [WX11 cy h0 a0 s0_7]) := by rw [es]; exact hD
      clear es
      refine lv_aload_n hx hb dX11_seasonStep_261 rfl (lv_at hl 0 rfl) ?_
      refine va_get (D := D) (ci := 11) (v := .ref (a0 0)) (C := RX11) (T := TX11) (N := 38) hx hb hts hinX11 hown hK hP 0 rfl rfl 0 (by decide) (hts (.fieldLink RX11 7 "KneeBenchModel" "at" "[I") (List.mem_of_getElem? (i := 1) rfl)) (fun _ h9 => h9) rfl dX11_seasonStep_262 ?_
      refine lv_sipush (v := 4830) hx hb dX11_seasonStep_265 (by decide) ?_
      refine lv_bipush (v := 6) hx hb dX11_seasonStep_268 (by decide) ?_
      refine lv_aload_n hx hb dX11_seasonStep_270 rfl (lv_at hl 0 rfl) ?_
      refine va_get (D := D) (ci := 11) (v := .ref (a0 21)) (C := RX11) (T := TX11) (N := 38) hx hb hts hinX11 hown hK hP 0 rfl rfl 21 (by decide) (hts (.fieldLink RX11 44 "KneeBenchModel" "opened" "[I") (List.mem_of_getElem? (i := 4) rfl)) (fun _ h9 => h9) rfl dX11_seasonStep_271 ?_
      refine lv_aload_n hx hb dX11_seasonStep_274 rfl (lv_at hl 0 rfl) ?_
      refine va_get (D := D) (ci := 11) (v := .int (gi s0_7 22)) (C := RX11) (T := TX11) (N := 38) hx hb hts hinX11 hown hK hP 0 rfl rfl 22 (by decide) (hts (.fieldLink RX11 240 "KneeBenchModel" "depth" "I") (List.mem_of_getElem? (i := 2) rfl)) (fun _ h9 => h9) rfl dX11_seasonStep_275 ?_
      obtain ⟨g8, h⟩ := gd_elim h
      refine va_iald hx hb hK hP 8 1 rfl rfl (inb_in g8) dX11_seasonStep_278 ?_
      refine lv_imul hx hb dX11_seasonStep_279 ?_
      refine lv_iadd hx hb dX11_seasonStep_280 ?_
      refine lv_iconst (v := 4) hx hb dX11_seasonStep_281 (by decide) ?_
      refine lv_iadd hx hb dX11_seasonStep_282 ?_
      refine lv_iload_n hx hb dX11_seasonStep_283 rfl (lv_at hl 2 rfl) ?_
      obtain ⟨g9, h⟩ := gd_elim h
      obtain ⟨s0_10, es, h⟩ := lt_elim h
      refine va_iast hx hb hK hP hD hS 1 1 rfl rfl (inb_in g9) dX11_seasonStep_284 (fun H locs hP hD hS => ?_)
      have hP : va_P D vwCl (flat [WX11 cy h0 a0 s0_10]) H := by rw [es]; exact hP
      have hD : va_D A (flat [WX11 cy h0 a0 s0_10]) := by rw [es]; exact hD
      clear es
      refine lv_aload_n hx hb dX11_seasonStep_285 rfl (lv_at hl 0 rfl) ?_
      refine lv_bipush (v := 59) hx hb dX11_seasonStep_286 (by decide) ?_
      obtain ⟨r11, hr11, h⟩ := bd_elim h
      refine ca_z (w' := [WX11 cy h0 a0 r11.2]) (rn_V (As := [.int (59 : Int32)]) (rest := []) ⟨hx, hb, hml, hown, hts⟩ (kX11_wantSign l D cy h0 a0 s0_10 (59 : Int32) r11 hr11 H.size) (cwV 1 hts gX11_seasonStep_X11_wantSign rfl rfl rfl (by decide +kernel) ⟨Nat.le_of_ble_eq_true rfl, Nat.le_of_ble_eq_true rfl⟩) hK hN hP hD [0] rfl rfl (ci := 11) (q0 := 0) rfl rfl rfl rfl hl.1 rfl (Nat.le_of_ble_eq_true rfl) dX11_seasonStep_288 ⟨Nat.le_refl 0, Nat.le_refl 0⟩) hP hD hS hA [0] ⟨rfl, rfl, rfl, rfl⟩ (fun b12 H locs hP hD hS => ?_)
      exact hret 291 H locs ls (r11.1, r11.2) (Option.some.inj h) hP hD hS b12 dX11_seasonStep_291
  have J139 : ∀ (y139_1 : Int32) (y139_2 : Int32) (y139_3 : Int32) (y139_4 : Int32) (z139_0 : Int32) (z139_1 : Int32) (H : Heap) (locs : List Loc) (ls : Array Slot), lv_has ls 6 [(0, .ref h0), (1, .int y139_1), (2, .int y139_2), (3, .int y139_3), (4, .int y139_4)] → va_P D vwCl (flat [WX11 cy h0 a0 s0]) H → va_D A (flat [WX11 cy h0 a0 s0]) → va_S A s.heap H locs → fX11_seasonStep_J139 s0 y139_1 y139_2 y139_3 y139_4 z139_0 z139_1 = some res → W p l e rmX11_seasonStep s m args below meth c H locs 0 0 QQ (F0 m 139 ls [.int z139_0, .int z139_1, .ref h0]) := by
    intro y139_1 y139_2 y139_3 y139_4 z139_0 z139_1 H locs ls hl hP hD hS h
    unfold fX11_seasonStep_J139 at h
    refine lv_iadd hx hb dX11_seasonStep_139 ?_
    obtain ⟨s0_13, es, h⟩ := lt_elim h
    refine va_put (D := D) (ci := 11) (v := .int (z139_1 + z139_0)) (ty := .int) (C := RX11) (T := TX11) (N := 38) hx hb hts hinX11 tyX11 tyX11_ok nmX11 hown hK hP hD hS 0 rfl rfl 23 (by decide) (hts (.fieldLink RX11 243 "KneeBenchModel" "counted" "I") (List.mem_of_getElem? (i := 3) rfl)) (fun _ h9 => h9) rfl (by decide +kernel) rfl rfl (Nat.le_of_ble_eq_true rfl) dX11_seasonStep_140 (fun H locs hP hD hS => ?_)
    have hP : va_P D vwCl (flat [WX11 cy h0 a0 s0_13]) H := by rw [es]; exact hP
    have hD : va_D A (flat [WX11 cy h0 a0 s0_13]) := by rw [es]; exact hD
    clear es
    refine lv_aload_n hx hb dX11_seasonStep_143 rfl (lv_at hl 0 rfl) ?_
    refine va_get (D := D) (ci := 11) (v := .ref (a0 0)) (C := RX11) (T := TX11) (N := 38) hx hb hts hinX11 hown hK hP 0 rfl rfl 0 (by decide) (hts (.fieldLink RX11 7 "KneeBenchModel" "at" "[I") (List.mem_of_getElem? (i := 1) rfl)) (fun _ h9 => h9) rfl dX11_seasonStep_144 ?_
    refine lv_iload_n hx hb dX11_seasonStep_147 rfl (lv_at hl 3 rfl) ?_
    refine lv_iload_n hx hb dX11_seasonStep_148 rfl (lv_at hl 1 rfl) ?_
    obtain ⟨g14, h⟩ := gd_elim h
    obtain ⟨s0_15, es, h⟩ := lt_elim h
    refine va_iast hx hb hK hP hD hS 1 1 rfl rfl (inb_in g14) dX11_seasonStep_149 (fun H locs hP hD hS => ?_)
    have hP : va_P D vwCl (flat [WX11 cy h0 a0 s0_15]) H := by rw [es]; exact hP
    have hD : va_D A (flat [WX11 cy h0 a0 s0_15]) := by rw [es]; exact hD
    clear es
    refine lv_iconst (v := 1) hx hb dX11_seasonStep_150 (by decide) ?_
    refine lv_istore (lv' := [(5, .int (1 : Int32)), (0, .ref h0), (1, .int y139_1), (2, .int y139_2), (3, .int y139_3), (4, .int y139_4)]) hx hb dX11_seasonStep_151 hl (by decide) rfl (fun ls hl => ?_)
    have L153 : ∀ (n : Nat) (q153 : Int32 × Rc) (o : Rc), loopO (fX11_seasonStep_L153 y139_3) n q153 = some o → ∀ (H : Heap) (locs : List Loc) (ls : Array Slot), lv_has ls 6 [(0, .ref h0), (1, .int y139_1), (2, .int y139_2), (3, .int y139_3), (4, .int y139_4), (5, .int q153.1)] → va_P D vwCl (flat [WX11 cy h0 a0 q153.2]) H → va_D A (flat [WX11 cy h0 a0 q153.2]) → va_S A s.heap H locs → ∀ (kk176 : ∀ (H : Heap) (locs : List Loc) (ls : Array Slot), lv_has ls 6 [(0, .ref h0), (1, .int y139_1), (2, .int y139_2), (3, .int y139_3), (4, .int y139_4)] → va_P D vwCl (flat [WX11 cy h0 a0 o]) H → va_D A (flat [WX11 cy h0 a0 o]) → va_S A s.heap H locs → W p l e rmX11_seasonStep s m args below meth c H locs 0 0 QQ (F0 m 176 ls [])), W p l e rmX11_seasonStep s m args below meth c H locs 0 0 QQ (F0 m 153 ls []) := by
      intro n
      induction n with
      | zero => intro q153 o h; exact absurd h (by rw [loopO_zero]; intro z; cases z)
      | succ n ih =>
        intro q153 o h H locs ls hl hP hD hS kk176
        obtain ⟨w, h, hgo, hst⟩ := loopO_elim h
        unfold fX11_seasonStep_L153 at h
        refine lv_iload hx hb dX11_seasonStep_153 (lv_at hl 5 rfl) ?_
        refine lv_bipush (v := 6) hx hb dX11_seasonStep_155 (by decide) ?_
        refine lv_icmp_ge (tgt := 176) hx hb dX11_seasonStep_157 (by decide) (fun c16 => ?_) (fun c16 => ?_)
        · replace h := (if_pos c16).symm.trans h
          have eo := hst _ (Option.some.inj h).symm
          subst eo
          exact kk176 H locs ls (lv_sub hl [0, 1, 2, 3, 4] rfl) hP hD hS
        · replace h := (if_neg c16).symm.trans h
          refine lv_aload_n hx hb dX11_seasonStep_160 rfl (lv_at hl 0 rfl) ?_
          refine va_get (D := D) (ci := 11) (v := .ref (a0 0)) (C := RX11) (T := TX11) (N := 38) hx hb hts hinX11 hown hK hP 0 rfl rfl 0 (by decide) (hts (.fieldLink RX11 7 "KneeBenchModel" "at" "[I") (List.mem_of_getElem? (i := 1) rfl)) (fun _ h9 => h9) rfl dX11_seasonStep_161 ?_
          refine lv_iload_n hx hb dX11_seasonStep_164 rfl (lv_at hl 3 rfl) ?_
          refine lv_iload hx hb dX11_seasonStep_165 (lv_at hl 5 rfl) ?_
          refine lv_iadd hx hb dX11_seasonStep_167 ?_
          refine lv_iconst (v := 0) hx hb dX11_seasonStep_168 (by decide) ?_
          obtain ⟨g17, h⟩ := gd_elim h
          obtain ⟨s0_18, es, h⟩ := lt_elim h
          refine va_iast hx hb hK hP hD hS 1 1 rfl rfl (inb_in g17) dX11_seasonStep_169 (fun H locs hP hD hS => ?_)
          have hP : va_P D vwCl (flat [WX11 cy h0 a0 s0_18]) H := by rw [es]; exact hP
          have hD : va_D A (flat [WX11 cy h0 a0 s0_18]) := by rw [es]; exact hD
          clear es
          refine lv_iinc (v := (q153.1 + (1 : Int32))) (lv' := [(5, .int (q153.1 + (1 : Int32))), (0, .ref h0), (1, .int y139_1), (2, .int y139_2), (3, .int y139_3), (4, .int y139_4)]) hx hb dX11_seasonStep_170 hl (k := 5) rfl rfl (by decide) rfl (fun ls hl => ?_)
          refine lv_goto (tgt := 153) hx hb dX11_seasonStep_173 (by decide) ?_
          exact ih _ o (hgo _ (Option.some.inj h).symm) H locs ls (lv_sub hl [1, 2, 3, 4, 5, 0] rfl) hP hD hS kk176
    obtain ⟨o153, ho153, h⟩ := bd_elim h
    obtain ⟨n153, hn153⟩ := loopF_some ho153
    refine L153 n153 _ o153 hn153 H locs ls (lv_sub hl [1, 2, 3, 4, 5, 0] rfl) hP hD hS (fun H locs ls hl hP hD hS => ?_)
    refine lv_aload_n hx hb dX11_seasonStep_176 rfl (lv_at hl 0 rfl) ?_
    refine va_get (D := D) (ci := 11) (v := .ref (a0 0)) (C := RX11) (T := TX11) (N := 38) hx hb hts hinX11 hown hK hP 0 rfl rfl 0 (by decide) (hts (.fieldLink RX11 7 "KneeBenchModel" "at" "[I") (List.mem_of_getElem? (i := 1) rfl)) (fun _ h9 => h9) rfl dX11_seasonStep_177 ?_
    refine lv_sipush (v := 4163) hx hb dX11_seasonStep_180 (by decide) ?_
    refine lv_dup2_11 hx hb dX11_seasonStep_183 rfl rfl ?_
    refine va_iald hx hb hK hP 1 1 rfl rfl (inb_in (by decide)) dX11_seasonStep_184 ?_
    refine lv_iconst (v := 1) hx hb dX11_seasonStep_185 (by decide) ?_
    refine lv_iadd hx hb dX11_seasonStep_186 ?_
    obtain ⟨s0_19, es, h⟩ := lt_elim h
    refine va_iast hx hb hK hP hD hS 1 1 rfl rfl (inb_in (by decide)) dX11_seasonStep_187 (fun H locs hP hD hS => ?_)
    have hP : va_P D vwCl (flat [WX11 cy h0 a0 s0_19]) H := by rw [es]; exact hP
    have hD : va_D A (flat [WX11 cy h0 a0 s0_19]) := by rw [es]; exact hD
    clear es
    refine lv_aload_n hx hb dX11_seasonStep_188 rfl (lv_at hl 0 rfl) ?_
    obtain ⟨r20, hr20, h⟩ := bd_elim h
    refine ca_v (w' := [WX11 cy h0 a0 r20]) (rn_V (As := []) (rest := []) ⟨hx, hb, hml, hown, hts⟩ (kX11_ahead l D cy h0 a0 s0_19 r20 hr20 H.size) (cwV 0 hts gX11_seasonStep_X11_ahead rfl rfl rfl (by decide +kernel) ⟨Nat.le_of_ble_eq_true rfl, Nat.le_of_ble_eq_true rfl⟩) hK hN hP hD [0] rfl rfl (ci := 11) (q0 := 0) rfl rfl rfl rfl hl.1 rfl (Nat.le_of_ble_eq_true rfl) dX11_seasonStep_189 ⟨Nat.le_refl 0, Nat.le_refl 0⟩) hP hD hS hA [0] ⟨rfl, rfl, rfl, rfl⟩ (fun H locs hP hD hS => ?_)
    refine lv_aload_n hx hb dX11_seasonStep_192 rfl (lv_at hl 0 rfl) ?_
    refine lv_iload_n hx hb dX11_seasonStep_193 rfl (lv_at hl 1 rfl) ?_
    refine lv_iload_n hx hb dX11_seasonStep_194 rfl (lv_at hl 3 rfl) ?_
    obtain ⟨r21, hr21, h⟩ := bd_elim h
    refine ca_z (w' := [WX11 cy h0 a0 r21.2]) (rn_V2 (As := [.int y139_1, .int y139_3]) (rest := []) ⟨hx, hb, hml, hown, hts⟩ (kX11_seasonOrder S l D cy h0 a0 r20 y139_1 y139_3 r21 hr21 H.size) (cwV 2 hts gX11_seasonStep_X11_seasonOrder rfl rfl rfl (by decide +kernel) ⟨Nat.le_of_ble_eq_true rfl, Nat.le_of_ble_eq_true rfl⟩) hK hN hX hP hD hS hA [0] rfl rfl (ci := 11) (q0 := 0) rfl rfl rfl rfl hl.1 rfl (Nat.le_of_ble_eq_true rfl) dX11_seasonStep_195 ⟨Nat.le_refl 0, Nat.le_refl 0⟩) hP hD hS hA [0] ⟨rfl, rfl, rfl, rfl⟩ (fun b22 H locs hP hD hS => ?_)
    refine lv_if_ne (tgt := 203) hx hb dX11_seasonStep_198 (by decide) (fun c23 => ?_) (fun c23 => ?_)
    · replace h := (if_neg c23).symm.trans h
      refine lv_iload hx hb dX11_seasonStep_203 (lv_at hl 4 rfl) ?_
      refine lv_if_eq (tgt := 228) hx hb dX11_seasonStep_205 (by decide) (fun c24 => ?_) (fun c24 => ?_)
      · replace h := (if_pos c24).symm.trans h
        exact J228 y139_1 y139_2 y139_3 r21.2 H locs ls (lv_sub hl [0, 1, 2, 3] rfl) hP hD hS h
      · replace h := (if_neg c24).symm.trans h
        refine lv_aload_n hx hb dX11_seasonStep_208 rfl (lv_at hl 0 rfl) ?_
        refine va_get (D := D) (ci := 11) (v := .ref (a0 21)) (C := RX11) (T := TX11) (N := 38) hx hb hts hinX11 hown hK hP 0 rfl rfl 21 (by decide) (hts (.fieldLink RX11 44 "KneeBenchModel" "opened" "[I") (List.mem_of_getElem? (i := 4) rfl)) (fun _ h9 => h9) rfl dX11_seasonStep_209 ?_
        refine lv_aload_n hx hb dX11_seasonStep_212 rfl (lv_at hl 0 rfl) ?_
        refine va_get (D := D) (ci := 11) (v := .int (gi r21.2 22)) (C := RX11) (T := TX11) (N := 38) hx hb hts hinX11 hown hK hP 0 rfl rfl 22 (by decide) (hts (.fieldLink RX11 240 "KneeBenchModel" "depth" "I") (List.mem_of_getElem? (i := 2) rfl)) (fun _ h9 => h9) rfl dX11_seasonStep_213 ?_
        refine lv_iload_n hx hb dX11_seasonStep_216 rfl (lv_at hl 2 rfl) ?_
        obtain ⟨g25, h⟩ := gd_elim h
        obtain ⟨s0_26, es, h⟩ := lt_elim h
        refine va_iast hx hb hK hP hD hS 8 1 rfl rfl (inb_in g25) dX11_seasonStep_217 (fun H locs hP hD hS => ?_)
        have hP : va_P D vwCl (flat [WX11 cy h0 a0 s0_26]) H := by rw [es]; exact hP
        have hD : va_D A (flat [WX11 cy h0 a0 s0_26]) := by rw [es]; exact hD
        clear es
        refine lv_aload_n hx hb dX11_seasonStep_218 rfl (lv_at hl 0 rfl) ?_
        refine lv_dup hx hb dX11_seasonStep_219 rfl ?_
        refine va_get (D := D) (ci := 11) (v := .int (gi s0_26 22)) (C := RX11) (T := TX11) (N := 38) hx hb hts hinX11 hown hK hP 0 rfl rfl 22 (by decide) (hts (.fieldLink RX11 240 "KneeBenchModel" "depth" "I") (List.mem_of_getElem? (i := 2) rfl)) (fun _ h9 => h9) rfl dX11_seasonStep_220 ?_
        refine lv_iconst (v := 1) hx hb dX11_seasonStep_223 (by decide) ?_
        refine lv_iadd hx hb dX11_seasonStep_224 ?_
        obtain ⟨s0_27, es, h⟩ := lt_elim h
        refine va_put (D := D) (ci := 11) (v := .int ((gi s0_26 22) + (1 : Int32))) (ty := .int) (C := RX11) (T := TX11) (N := 38) hx hb hts hinX11 tyX11 tyX11_ok nmX11 hown hK hP hD hS 0 rfl rfl 22 (by decide) (hts (.fieldLink RX11 240 "KneeBenchModel" "depth" "I") (List.mem_of_getElem? (i := 2) rfl)) (fun _ h9 => h9) rfl (by decide +kernel) rfl rfl (Nat.le_of_ble_eq_true rfl) dX11_seasonStep_225 (fun H locs hP hD hS => ?_)
        have hP : va_P D vwCl (flat [WX11 cy h0 a0 s0_27]) H := by rw [es]; exact hP
        have hD : va_D A (flat [WX11 cy h0 a0 s0_27]) := by rw [es]; exact hD
        clear es
        exact J228 y139_1 y139_2 y139_3 s0_27 H locs ls (lv_sub hl [0, 1, 2, 3] rfl) hP hD hS h
    · replace h := (if_pos c23).symm.trans h
      refine lv_iconst (v := 0) hx hb dX11_seasonStep_201 (by decide) ?_
      exact hret 202 H locs ls ((0 : Int32), r21.2) (Option.some.inj h) hP hD hS (show isb (0 : Int32) = true by decide) dX11_seasonStep_202
  have J123 : ∀ (y123_1 : Int32) (y123_2 : Int32) (y123_3 : Int32) (y123_4 : Int32) (H : Heap) (locs : List Loc) (ls : Array Slot), lv_has ls 6 [(0, .ref h0), (1, .int y123_1), (2, .int y123_2), (3, .int y123_3), (4, .int y123_4)] → va_P D vwCl (flat [WX11 cy h0 a0 s0]) H → va_D A (flat [WX11 cy h0 a0 s0]) → va_S A s.heap H locs → fX11_seasonStep_J123 s0 y123_1 y123_2 y123_3 y123_4 = some res → W p l e rmX11_seasonStep s m args below meth c H locs 0 0 QQ (F0 m 123 ls []) := by
    intro y123_1 y123_2 y123_3 y123_4 H locs ls hl hP hD hS h
    unfold fX11_seasonStep_J123 at h
    refine lv_aload_n hx hb dX11_seasonStep_123 rfl (lv_at hl 0 rfl) ?_
    refine lv_dup hx hb dX11_seasonStep_124 rfl ?_
    refine va_get (D := D) (ci := 11) (v := .int (gi s0 23)) (C := RX11) (T := TX11) (N := 38) hx hb hts hinX11 hown hK hP 0 rfl rfl 23 (by decide) (hts (.fieldLink RX11 243 "KneeBenchModel" "counted" "I") (List.mem_of_getElem? (i := 3) rfl)) (fun _ h9 => h9) rfl dX11_seasonStep_125 ?_
    refine lv_iload_n hx hb dX11_seasonStep_128 rfl (lv_at hl 1 rfl) ?_
    refine lv_bipush (v := 25) hx hb dX11_seasonStep_129 (by decide) ?_
    refine lv_icmp_ne (tgt := 138) hx hb dX11_seasonStep_131 (by decide) (fun c28 => ?_) (fun c28 => ?_)
    · replace h := (if_neg c28).symm.trans h
      refine lv_iconst (v := 1) hx hb dX11_seasonStep_138 (by decide) ?_
      exact J139 y123_1 y123_2 y123_3 y123_4 (1 : Int32) (gi s0 23) H locs ls (lv_sub hl [0, 1, 2, 3, 4] rfl) hP hD hS h
    · replace h := (if_pos c28).symm.trans h
      refine lv_iconst (v := 0) hx hb dX11_seasonStep_134 (by decide) ?_
      refine lv_goto (tgt := 139) hx hb dX11_seasonStep_135 (by decide) ?_
      exact J139 y123_1 y123_2 y123_3 y123_4 (0 : Int32) (gi s0 23) H locs ls (lv_sub hl [0, 1, 2, 3, 4] rfl) hP hD hS h
  have J103 : ∀ (y103_1 : Int32) (y103_2 : Int32) (y103_3 : Int32) (y103_4 : Int32) (H : Heap) (locs : List Loc) (ls : Array Slot), lv_has ls 6 [(0, .ref h0), (1, .int y103_1), (2, .int y103_2), (3, .int y103_3), (4, .int y103_4)] → va_P D vwCl (flat [WX11 cy h0 a0 s0]) H → va_D A (flat [WX11 cy h0 a0 s0]) → va_S A s.heap H locs → fX11_seasonStep_J103 s0 y103_1 y103_2 y103_3 y103_4 = some res → W p l e rmX11_seasonStep s m args below meth c H locs 0 0 QQ (F0 m 103 ls []) := by
    intro y103_1 y103_2 y103_3 y103_4 H locs ls hl hP hD hS h
    unfold fX11_seasonStep_J103 at h
    refine lv_iload hx hb dX11_seasonStep_103 (lv_at hl 4 rfl) ?_
    refine lv_if_eq (tgt := 123) hx hb dX11_seasonStep_105 (by decide) (fun c29 => ?_) (fun c29 => ?_)
    · replace h := (if_pos c29).symm.trans h
      exact J123 y103_1 y103_2 y103_3 y103_4 H locs ls (lv_sub hl [0, 1, 2, 3, 4] rfl) hP hD hS h
    · replace h := (if_neg c29).symm.trans h
      refine lv_aload_n hx hb dX11_seasonStep_108 rfl (lv_at hl 0 rfl) ?_
      refine va_get (D := D) (ci := 11) (v := .int (gi s0 22)) (C := RX11) (T := TX11) (N := 38) hx hb hts hinX11 hown hK hP 0 rfl rfl 22 (by decide) (hts (.fieldLink RX11 240 "KneeBenchModel" "depth" "I") (List.mem_of_getElem? (i := 2) rfl)) (fun _ h9 => h9) rfl dX11_seasonStep_109 ?_
      refine lv_iconst (v := 3) hx hb dX11_seasonStep_112 (by decide) ?_
      refine lv_icmp_ne (tgt := 123) hx hb dX11_seasonStep_113 (by decide) (fun c30 => ?_) (fun c30 => ?_)
      · replace h := (if_neg c30).symm.trans h
        exact J123 y103_1 y103_2 y103_3 y103_4 H locs ls (lv_sub hl [0, 1, 2, 3, 4] rfl) hP hD hS h
      · replace h := (if_pos c30).symm.trans h
        refine lv_aload_n hx hb dX11_seasonStep_116 rfl (lv_at hl 0 rfl) ?_
        refine lv_bipush (v := 7) hx hb dX11_seasonStep_117 (by decide) ?_
        obtain ⟨r31, hr31, h⟩ := lt_elim h
        refine ca_z (w' := [WX11 cy h0 a0 r31.2]) (rn_V (As := [.int (7 : Int32)]) (rest := []) ⟨hx, hb, hml, hown, hts⟩ (kX11_fails l D cy h0 a0 s0 (7 : Int32) r31 hr31.symm H.size) (cwV 1 hts gX11_seasonStep_X11_fails rfl rfl rfl (by decide +kernel) ⟨Nat.le_of_ble_eq_true rfl, Nat.le_of_ble_eq_true rfl⟩) hK hN hP hD [0] rfl rfl (ci := 11) (q0 := 0) rfl rfl rfl rfl hl.1 rfl (Nat.le_of_ble_eq_true rfl) dX11_seasonStep_119 ⟨Nat.le_refl 0, Nat.le_refl 0⟩) hP hD hS hA [0] ⟨rfl, rfl, rfl, rfl⟩ (fun b32 H locs hP hD hS => ?_)
        exact hret 122 H locs ls (r31.1, r31.2) (Option.some.inj h) hP hD hS b32 dX11_seasonStep_122
  have J81 : ∀ (y81_1 : Int32) (y81_2 : Int32) (y81_3 : Int32) (y81_4 : Int32) (H : Heap) (locs : List Loc) (ls : Array Slot), lv_has ls 6 [(0, .ref h0), (1, .int y81_1), (2, .int y81_2), (3, .int y81_3), (4, .int y81_4)] → va_P D vwCl (flat [WX11 cy h0 a0 s0]) H → va_D A (flat [WX11 cy h0 a0 s0]) → va_S A s.heap H locs → fX11_seasonStep_J81 s0 y81_1 y81_2 y81_3 y81_4 = some res → W p l e rmX11_seasonStep s m args below meth c H locs 0 0 QQ (F0 m 81 ls []) := by
    intro y81_1 y81_2 y81_3 y81_4 H locs ls hl hP hD hS h
    unfold fX11_seasonStep_J81 at h
    refine lv_iload_n hx hb dX11_seasonStep_81 rfl (lv_at hl 1 rfl) ?_
    refine lv_bipush (v := 25) hx hb dX11_seasonStep_82 (by decide) ?_
    refine lv_icmp_eq (tgt := 103) hx hb dX11_seasonStep_84 (by decide) (fun c33 => ?_) (fun c33 => ?_)
    · replace h := (if_pos c33).symm.trans h
      exact J103 y81_1 y81_2 y81_3 y81_4 H locs ls (lv_sub hl [0, 1, 2, 3, 4] rfl) hP hD hS h
    · replace h := (if_neg c33).symm.trans h
      refine lv_aload_n hx hb dX11_seasonStep_87 rfl (lv_at hl 0 rfl) ?_
      refine va_get (D := D) (ci := 11) (v := .int (gi s0 23)) (C := RX11) (T := TX11) (N := 38) hx hb hts hinX11 hown hK hP 0 rfl rfl 23 (by decide) (hts (.fieldLink RX11 243 "KneeBenchModel" "counted" "I") (List.mem_of_getElem? (i := 3) rfl)) (fun _ h9 => h9) rfl dX11_seasonStep_88 ?_
      refine lv_bipush (v := 30) hx hb dX11_seasonStep_91 (by decide) ?_
      refine lv_icmp_ne (tgt := 103) hx hb dX11_seasonStep_93 (by decide) (fun c34 => ?_) (fun c34 => ?_)
      · replace h := (if_neg c34).symm.trans h
        exact J103 y81_1 y81_2 y81_3 y81_4 H locs ls (lv_sub hl [0, 1, 2, 3, 4] rfl) hP hD hS h
      · replace h := (if_pos c34).symm.trans h
        refine lv_aload_n hx hb dX11_seasonStep_96 rfl (lv_at hl 0 rfl) ?_
        refine lv_bipush (v := 6) hx hb dX11_seasonStep_97 (by decide) ?_
        obtain ⟨r35, hr35, h⟩ := lt_elim h
        refine ca_z (w' := [WX11 cy h0 a0 r35.2]) (rn_V (As := [.int (6 : Int32)]) (rest := []) ⟨hx, hb, hml, hown, hts⟩ (kX11_fails l D cy h0 a0 s0 (6 : Int32) r35 hr35.symm H.size) (cwV 1 hts gX11_seasonStep_X11_fails rfl rfl rfl (by decide +kernel) ⟨Nat.le_of_ble_eq_true rfl, Nat.le_of_ble_eq_true rfl⟩) hK hN hP hD [0] rfl rfl (ci := 11) (q0 := 0) rfl rfl rfl rfl hl.1 rfl (Nat.le_of_ble_eq_true rfl) dX11_seasonStep_99 ⟨Nat.le_refl 0, Nat.le_refl 0⟩) hP hD hS hA [0] ⟨rfl, rfl, rfl, rfl⟩ (fun b36 H locs hP hD hS => ?_)
        exact hret 102 H locs ls (r35.1, r35.2) (Option.some.inj h) hP hD hS b36 dX11_seasonStep_102
  have J42 : ∀ (y42_1 : Int32) (y42_2 : Int32) (y42_3 : Int32) (z42_0 : Int32) (H : Heap) (locs : List Loc) (ls : Array Slot), lv_has ls 6 [(0, .ref h0), (1, .int y42_1), (2, .int y42_2), (3, .int y42_3)] → va_P D vwCl (flat [WX11 cy h0 a0 s0]) H → va_D A (flat [WX11 cy h0 a0 s0]) → va_S A s.heap H locs → fX11_seasonStep_J42 s0 y42_1 y42_2 y42_3 z42_0 = some res → W p l e rmX11_seasonStep s m args below meth c H locs 0 0 QQ (F0 m 42 ls [.int z42_0]) := by
    intro y42_1 y42_2 y42_3 z42_0 H locs ls hl hP hD hS h
    unfold fX11_seasonStep_J42 at h
    refine lv_istore (lv' := [(4, .int z42_0), (0, .ref h0), (1, .int y42_1), (2, .int y42_2), (3, .int y42_3)]) hx hb dX11_seasonStep_42 hl (by decide) rfl (fun ls hl => ?_)
    refine lv_iload_n hx hb dX11_seasonStep_44 rfl (lv_at hl 2 rfl) ?_
    refine lv_bipush (v := 14) hx hb dX11_seasonStep_45 (by decide) ?_
    refine lv_icmp_lt (tgt := 75) hx hb dX11_seasonStep_47 (by decide) (fun c37 => ?_) (fun c37 => ?_)
    · replace h := (if_pos c37).symm.trans h
      refine lv_aload_n hx hb dX11_seasonStep_75 rfl (lv_at hl 1 rfl) ?_
      refine lv_iconst (v := 2) hx hb dX11_seasonStep_76 (by decide) ?_
      obtain ⟨r38, hr38, h⟩ := lt_elim h
      refine ca_z (w' := [WX11 cy h0 a0 r38.2]) (rn_V (As := [.int (2 : Int32)]) (rest := []) ⟨hx, hb, hml, hown, hts⟩ (kX11_fails l D cy h0 a0 s0 (2 : Int32) r38 hr38.symm H.size) (cwV 1 hts gX11_seasonStep_X11_fails rfl rfl rfl (by decide +kernel) ⟨Nat.le_of_ble_eq_true rfl, Nat.le_of_ble_eq_true rfl⟩) hK hN hP hD [0] rfl rfl (ci := 11) (q0 := 0) rfl rfl rfl rfl hl.1 rfl (Nat.le_of_ble_eq_true rfl) dX11_seasonStep_77 ⟨Nat.le_refl 0, Nat.le_refl 0⟩) hP hD hS hA [0] ⟨rfl, rfl, rfl, rfl⟩ (fun b39 H locs hP hD hS => ?_)
      exact hret 80 H locs ls (r38.1, r38.2) (Option.some.inj h) hP hD hS b39 dX11_seasonStep_80
    · replace h := (if_neg c37).symm.trans h
      refine lv_iload_n hx hb dX11_seasonStep_50 rfl (lv_at hl 2 rfl) ?_
      refine lv_bipush (v := 26) hx hb dX11_seasonStep_51 (by decide) ?_
      refine lv_icmp_gt (tgt := 75) hx hb dX11_seasonStep_53 (by decide) (fun c40 => ?_) (fun c40 => ?_)
      · replace h := (if_pos c40).symm.trans h
        refine lv_aload_n hx hb dX11_seasonStep_75 rfl (lv_at hl 1 rfl) ?_
        refine lv_iconst (v := 2) hx hb dX11_seasonStep_76 (by decide) ?_
        obtain ⟨r41, hr41, h⟩ := lt_elim h
        refine ca_z (w' := [WX11 cy h0 a0 r41.2]) (rn_V (As := [.int (2 : Int32)]) (rest := []) ⟨hx, hb, hml, hown, hts⟩ (kX11_fails l D cy h0 a0 s0 (2 : Int32) r41 hr41.symm H.size) (cwV 1 hts gX11_seasonStep_X11_fails rfl rfl rfl (by decide +kernel) ⟨Nat.le_of_ble_eq_true rfl, Nat.le_of_ble_eq_true rfl⟩) hK hN hP hD [0] rfl rfl (ci := 11) (q0 := 0) rfl rfl rfl rfl hl.1 rfl (Nat.le_of_ble_eq_true rfl) dX11_seasonStep_77 ⟨Nat.le_refl 0, Nat.le_refl 0⟩) hP hD hS hA [0] ⟨rfl, rfl, rfl, rfl⟩ (fun b42 H locs hP hD hS => ?_)
        exact hret 80 H locs ls (r41.1, r41.2) (Option.some.inj h) hP hD hS b42 dX11_seasonStep_80
      · replace h := (if_neg c40).symm.trans h
        refine lv_iload_n hx hb dX11_seasonStep_56 rfl (lv_at hl 2 rfl) ?_
        refine lv_bipush (v := 22) hx hb dX11_seasonStep_57 (by decide) ?_
        refine lv_icmp_eq (tgt := 75) hx hb dX11_seasonStep_59 (by decide) (fun c43 => ?_) (fun c43 => ?_)
        · replace h := (if_pos c43).symm.trans h
          refine lv_aload_n hx hb dX11_seasonStep_75 rfl (lv_at hl 1 rfl) ?_
          refine lv_iconst (v := 2) hx hb dX11_seasonStep_76 (by decide) ?_
          obtain ⟨r44, hr44, h⟩ := lt_elim h
          refine ca_z (w' := [WX11 cy h0 a0 r44.2]) (rn_V (As := [.int (2 : Int32)]) (rest := []) ⟨hx, hb, hml, hown, hts⟩ (kX11_fails l D cy h0 a0 s0 (2 : Int32) r44 hr44.symm H.size) (cwV 1 hts gX11_seasonStep_X11_fails rfl rfl rfl (by decide +kernel) ⟨Nat.le_of_ble_eq_true rfl, Nat.le_of_ble_eq_true rfl⟩) hK hN hP hD [0] rfl rfl (ci := 11) (q0 := 0) rfl rfl rfl rfl hl.1 rfl (Nat.le_of_ble_eq_true rfl) dX11_seasonStep_77 ⟨Nat.le_refl 0, Nat.le_refl 0⟩) hP hD hS hA [0] ⟨rfl, rfl, rfl, rfl⟩ (fun b45 H locs hP hD hS => ?_)
          exact hret 80 H locs ls (r44.1, r44.2) (Option.some.inj h) hP hD hS b45 dX11_seasonStep_80
        · replace h := (if_neg c43).symm.trans h
          refine lv_iload_n hx hb dX11_seasonStep_62 rfl (lv_at hl 2 rfl) ?_
          refine lv_bipush (v := 25) hx hb dX11_seasonStep_63 (by decide) ?_
          refine lv_icmp_ne (tgt := 81) hx hb dX11_seasonStep_65 (by decide) (fun c46 => ?_) (fun c46 => ?_)
          · replace h := (if_neg c46).symm.trans h
            exact J81 y42_1 y42_2 y42_3 z42_0 H locs ls (lv_sub hl [1, 2, 3, 4, 0] rfl) hP hD hS h
          · replace h := (if_pos c46).symm.trans h
            refine lv_aload_n hx hb dX11_seasonStep_68 rfl (lv_at hl 1 rfl) ?_
            refine va_get (D := D) (ci := 11) (v := .int (gi s0 22)) (C := RX11) (T := TX11) (N := 38) hx hb hts hinX11 hown hK hP 0 rfl rfl 22 (by decide) (hts (.fieldLink RX11 240 "KneeBenchModel" "depth" "I") (List.mem_of_getElem? (i := 2) rfl)) (fun _ h9 => h9) rfl dX11_seasonStep_69 ?_
            refine lv_if_ne (tgt := 81) hx hb dX11_seasonStep_72 (by decide) (fun c47 => ?_) (fun c47 => ?_)
            · replace h := (if_neg c47).symm.trans h
              exact J81 y42_1 y42_2 y42_3 z42_0 H locs ls (lv_sub hl [1, 2, 3, 4, 0] rfl) hP hD hS h
            · replace h := (if_pos c47).symm.trans h
              refine lv_aload_n hx hb dX11_seasonStep_75 rfl (lv_at hl 1 rfl) ?_
              refine lv_iconst (v := 2) hx hb dX11_seasonStep_76 (by decide) ?_
              obtain ⟨r48, hr48, h⟩ := lt_elim h
              refine ca_z (w' := [WX11 cy h0 a0 r48.2]) (rn_V (As := [.int (2 : Int32)]) (rest := []) ⟨hx, hb, hml, hown, hts⟩ (kX11_fails l D cy h0 a0 s0 (2 : Int32) r48 hr48.symm H.size) (cwV 1 hts gX11_seasonStep_X11_fails rfl rfl rfl (by decide +kernel) ⟨Nat.le_of_ble_eq_true rfl, Nat.le_of_ble_eq_true rfl⟩) hK hN hP hD [0] rfl rfl (ci := 11) (q0 := 0) rfl rfl rfl rfl hl.1 rfl (Nat.le_of_ble_eq_true rfl) dX11_seasonStep_77 ⟨Nat.le_refl 0, Nat.le_refl 0⟩) hP hD hS hA [0] ⟨rfl, rfl, rfl, rfl⟩ (fun b49 H locs hP hD hS => ?_)
              exact hret 80 H locs ls (r48.1, r48.2) (Option.some.inj h) hP hD hS b49 dX11_seasonStep_80
  have J37 : ∀ (y37_1 : Int32) (y37_2 : Int32) (y37_3 : Int32) (H : Heap) (locs : List Loc) (ls : Array Slot), lv_has ls 6 [(0, .ref h0), (1, .int y37_1), (2, .int y37_2), (3, .int y37_3)] → va_P D vwCl (flat [WX11 cy h0 a0 s0]) H → va_D A (flat [WX11 cy h0 a0 s0]) → va_S A s.heap H locs → fX11_seasonStep_J37 s0 y37_1 y37_2 y37_3 = some res → W p l e rmX11_seasonStep s m args below meth c H locs 0 0 QQ (F0 m 37 ls []) := by
    intro y37_1 y37_2 y37_3 H locs ls hl hP hD hS h
    unfold fX11_seasonStep_J37 at h
    refine lv_iconst (v := 1) hx hb dX11_seasonStep_37 (by decide) ?_
    refine lv_goto (tgt := 42) hx hb dX11_seasonStep_38 (by decide) ?_
    exact J42 y37_1 y37_2 y37_3 (1 : Int32) H locs ls (lv_sub hl [0, 1, 2, 3] rfl) hP hD hS h
  refine lv_aload_n hx hb dX11_seasonStep_0 rfl (lv_at hl 0 rfl) ?_
  refine va_ldcS hx hb hown hX.1.2 dX11_seasonStep_1 ?_
  obtain ⟨r50, hr50, h⟩ := bd_elim h
  refine ca_i (w' := [WX11 cy h0 a0 s0]) (rn_V2 (As := [.ref (S 2)]) (rest := []) ⟨hx, hb, hml, hown, hts⟩ (kX11_inWords S l D cy h0 a0 s0 r50 hr50 H.size) (cwV 1 hts gX11_seasonStep_X11_inWords rfl rfl rfl (by decide +kernel) ⟨Nat.le_of_ble_eq_true rfl, Nat.le_of_ble_eq_true rfl⟩) hK hN hX hP hD hS hA [0] rfl rfl (ci := 11) (q0 := 0) rfl rfl rfl rfl hl.1 rfl (Nat.le_of_ble_eq_true rfl) dX11_seasonStep_3 ⟨Nat.le_refl 0, Nat.le_refl 0⟩) hP hD hS hA [0] ⟨rfl, rfl, rfl, rfl⟩ (fun H locs hP hD hS => ?_)
  refine lv_istore_n (lv' := [(1, .int r50), (0, .ref h0)]) hx hb dX11_seasonStep_6 rfl hl (by decide) rfl (fun ls hl => ?_)
  refine lv_aload_n hx hb dX11_seasonStep_7 rfl (lv_at hl 1 rfl) ?_
  refine va_get (D := D) (ci := 11) (v := .ref (a0 0)) (C := RX11) (T := TX11) (N := 38) hx hb hts hinX11 hown hK hP 0 rfl rfl 0 (by decide) (hts (.fieldLink RX11 7 "KneeBenchModel" "at" "[I") (List.mem_of_getElem? (i := 1) rfl)) (fun _ h9 => h9) rfl dX11_seasonStep_8 ?_
  refine lv_sipush (v := 4163) hx hb dX11_seasonStep_11 (by decide) ?_
  refine va_iald hx hb hK hP 1 1 rfl rfl (inb_in (by decide)) dX11_seasonStep_14 ?_
  refine lv_topi (fun x51 ex51 => ?_)
  replace h := lt_use h x51 ex51
  refine lv_istore_n (lv' := [(2, .int x51), (1, .int r50), (0, .ref h0)]) hx hb dX11_seasonStep_15 rfl hl (by decide) rfl (fun ls hl => ?_)
  refine lv_sipush (v := 4830) hx hb dX11_seasonStep_16 (by decide) ?_
  refine lv_bipush (v := 6) hx hb dX11_seasonStep_19 (by decide) ?_
  refine lv_iload_n hx hb dX11_seasonStep_21 rfl (lv_at hl 0 rfl) ?_
  refine lv_imul hx hb dX11_seasonStep_22 ?_
  refine lv_iadd hx hb dX11_seasonStep_23 ?_
  refine lv_topi (fun x52 ex52 => ?_)
  replace h := lt_use h x52 ex52
  refine lv_istore_n (lv' := [(3, .int x52), (2, .int x51), (1, .int r50), (0, .ref h0)]) hx hb dX11_seasonStep_24 rfl hl (by decide) rfl (fun ls hl => ?_)
  refine lv_iload_n hx hb dX11_seasonStep_25 rfl (lv_at hl 2 rfl) ?_
  refine lv_bipush (v := 23) hx hb dX11_seasonStep_26 (by decide) ?_
  refine lv_icmp_eq (tgt := 37) hx hb dX11_seasonStep_28 (by decide) (fun c53 => ?_) (fun c53 => ?_)
  · replace h := (if_pos c53).symm.trans h
    exact J37 r50 x51 x52 H locs ls (lv_sub hl [3, 2, 1, 0] rfl) hP hD hS h
  · replace h := (if_neg c53).symm.trans h
    refine lv_iload_n hx hb dX11_seasonStep_31 rfl (lv_at hl 2 rfl) ?_
    refine lv_bipush (v := 24) hx hb dX11_seasonStep_32 (by decide) ?_
    refine lv_icmp_ne (tgt := 41) hx hb dX11_seasonStep_34 (by decide) (fun c54 => ?_) (fun c54 => ?_)
    · replace h := (if_neg c54).symm.trans h
      refine lv_iconst (v := 0) hx hb dX11_seasonStep_41 (by decide) ?_
      exact J42 r50 x51 x52 (0 : Int32) H locs ls (lv_sub hl [3, 2, 1, 0] rfl) hP hD hS h
    · replace h := (if_pos c54).symm.trans h
      exact J37 r50 x51 x52 H locs ls (lv_sub hl [3, 2, 1, 0] rfl) hP hD hS h
set_option maxRecDepth 20000 in
theorem ggX11_season_X11_begins : GoodIn wsX11_season wsX11_begins := goodIn_r _ [10, 11, 12, 13, 14, 5, 15, 16, 17, 18, 19, 20, 9, 21, 22, 23, 4, 24, 25, 26, 27, 28, 29, 30, 31, 32, 33, 34, 35, 36, 37, 38, 160, 161, 162, 163, 164, 165, 166, 167, 168, 169, 170, 171, 172, 173, 174, 175, 176, 177, 178, 179, 180, 181, 182, 183, 184, 185, 186, 187, 188, 189, 190, 191, 192, 193, 194, 195, 196, 197] (by decide +kernel) (by decide +kernel)
set_option maxRecDepth 20000 in
theorem gX11_season_X11_begins : GoodIn wsX11_season (wsV RX11 218 RX11 yX11_begins wsX11_begins) := goodIn_app (goodIn_of _ (by decide +kernel)) ggX11_season_X11_begins
set_option maxRecDepth 20000 in
theorem ggX11_season_X11_refuse : GoodIn wsX11_season wsX11_refuse := goodIn_r _ [42, 43, 160, 161, 162, 163, 164, 165, 166, 167, 168, 169, 170, 171, 172, 173, 174, 175, 176, 177, 178, 179, 180, 181, 182, 183, 184, 185, 186, 187, 188, 189, 190, 191, 192, 193, 194, 195, 196, 197] (by decide +kernel) (by decide +kernel)
set_option maxRecDepth 20000 in
theorem gX11_season_X11_refuse : GoodIn wsX11_season (wsV RX11 75 RX11 yX11_refuse wsX11_refuse) := goodIn_app (goodIn_of _ (by decide +kernel)) ggX11_season_X11_refuse
set_option maxRecDepth 20000 in
theorem ggX11_season_X11_seasonStep : GoodIn wsX11_season wsX11_seasonStep := goodIn_r _ [47, 1, 2, 3, 48, 49, 50, 51, 9, 52, 4, 16, 22, 53, 54, 55, 56, 57, 58, 59, 60, 61, 62, 63, 64, 65, 66, 67, 68, 69, 70, 71, 72, 73, 74, 75, 76, 77, 78, 79, 80, 81, 82, 83, 84, 85, 86, 87, 88, 89, 90, 91, 92, 93, 94, 95, 96, 97, 98, 99, 100, 101, 29, 30, 31, 32, 12, 13, 102, 103, 104, 105, 5, 15, 18, 19, 20, 21, 23, 24, 25, 26, 27, 28, 33, 34, 35, 36, 37, 38, 106, 107, 108, 109, 110, 111, 112, 113, 114, 115, 116, 117, 118, 119, 120, 121, 122, 123, 124, 125, 126, 127, 128, 129, 130, 131, 132, 133, 134, 135, 136, 137, 138, 139, 140, 141, 142, 143, 144, 145, 146, 147, 148, 149, 150, 160, 161, 162, 163, 164, 165, 166, 167, 168, 169, 170, 171, 172, 173, 174, 175, 176, 177, 178, 179, 180, 181, 182, 183, 184, 185, 186, 187, 188, 189, 190, 191, 192, 193, 194, 195, 196, 197] (by decide +kernel) (by decide +kernel)
set_option maxRecDepth 20000 in
theorem gX11_season_X11_seasonStep : GoodIn wsX11_season (wsV RX11 249 RX11 yX11_seasonStep wsX11_seasonStep) := goodIn_app (goodIn_of _ (by decide +kernel)) ggX11_season_X11_seasonStep
set_option maxRecDepth 20000 in
theorem ggX11_season_X11_fails : GoodIn wsX11_season wsX11_fails := goodIn_r _ [105, 5, 4, 22, 15, 160, 161, 162, 163, 164, 165, 166, 167, 168, 169, 170, 171, 172, 173, 174, 175, 176, 177, 178, 179, 180, 181, 182, 183, 184, 185, 186, 187, 188, 189, 190, 191, 192, 193, 194, 195, 196, 197] (by decide +kernel) (by decide +kernel)
set_option maxRecDepth 20000 in
theorem gX11_season_X11_fails : GoodIn wsX11_season (wsV RX11 157 RX11 yX11_fails wsX11_fails) := goodIn_app (goodIn_of _ (by decide +kernel)) ggX11_season_X11_fails
set_option maxRecDepth 20000 in
theorem ggX11_season_X11_taken : GoodIn wsX11_season wsX11_taken := goodIn_r _ [154, 5, 155, 39, 40, 41, 9, 42, 43, 156, 157, 158, 159, 160, 161, 162, 163, 164, 165, 166, 167, 168, 169, 170, 171, 172, 173, 174, 175, 176, 177, 178, 179, 180, 181, 182, 183, 184, 185, 186, 187, 188, 189, 190, 191, 192, 193, 194, 195, 196, 197] (by decide +kernel) (by decide +kernel)
set_option maxRecDepth 20000 in
theorem gX11_season_X11_taken : GoodIn wsX11_season (wsV RX11 231 RX11 yX11_taken wsX11_taken) := goodIn_app (goodIn_of _ (by decide +kernel)) ggX11_season_X11_taken
theorem dX11_season_0 : decode cX11_season 0 = .ok (.aload_n 0, 1) := by decide +kernel
theorem dX11_season_1 : decode cX11_season 1 = .ok (.iload_n 1, 1) := by decide +kernel
theorem dX11_season_2 : decode cX11_season 2 = .ok (.sipush 300, 3) := by decide +kernel
theorem dX11_season_5 : decode cX11_season 5 = .ok (.invokevirtual 218, 3) := by decide +kernel
theorem dX11_season_8 : decode cX11_season 8 = .ok (.ifCond .ne 9, 3) := by decide +kernel
theorem dX11_season_11 : decode cX11_season 11 = .ok (.aload_n 0, 1) := by decide +kernel
theorem dX11_season_12 : decode cX11_season 12 = .ok (.iconst 1, 1) := by decide +kernel
theorem dX11_season_13 : decode cX11_season 13 = .ok (.invokevirtual 75, 3) := by decide +kernel
theorem dX11_season_16 : decode cX11_season 16 = .ok (.ireturn, 1) := by decide +kernel
theorem dX11_season_17 : decode cX11_season 17 = .ok (.aload_n 0, 1) := by decide +kernel
theorem dX11_season_18 : decode cX11_season 18 = .ok (.getfield 7, 3) := by decide +kernel
theorem dX11_season_21 : decode cX11_season 21 = .ok (.sipush 4163, 3) := by decide +kernel
theorem dX11_season_24 : decode cX11_season 24 = .ok (.iconst 0, 1) := by decide +kernel
theorem dX11_season_25 : decode cX11_season 25 = .ok (.iastore, 1) := by decide +kernel
theorem dX11_season_26 : decode cX11_season 26 = .ok (.aload_n 0, 1) := by decide +kernel
theorem dX11_season_27 : decode cX11_season 27 = .ok (.iconst 0, 1) := by decide +kernel
theorem dX11_season_28 : decode cX11_season 28 = .ok (.putfield 240, 3) := by decide +kernel
theorem dX11_season_31 : decode cX11_season 31 = .ok (.aload_n 0, 1) := by decide +kernel
theorem dX11_season_32 : decode cX11_season 32 = .ok (.iconst 0, 1) := by decide +kernel
theorem dX11_season_33 : decode cX11_season 33 = .ok (.putfield 243, 3) := by decide +kernel
theorem dX11_season_36 : decode cX11_season 36 = .ok (.iconst 1, 1) := by decide +kernel
theorem dX11_season_37 : decode cX11_season 37 = .ok (.istore_n 2, 1) := by decide +kernel
theorem dX11_season_38 : decode cX11_season 38 = .ok (.iload_n 2, 1) := by decide +kernel
theorem dX11_season_39 : decode cX11_season 39 = .ok (.ifCond .eq 18, 3) := by decide +kernel
theorem dX11_season_42 : decode cX11_season 42 = .ok (.aload_n 0, 1) := by decide +kernel
theorem dX11_season_43 : decode cX11_season 43 = .ok (.getfield 120, 3) := by decide +kernel
theorem dX11_season_46 : decode cX11_season 46 = .ok (.ifCond .eq 11, 3) := by decide +kernel
theorem dX11_season_49 : decode cX11_season 49 = .ok (.aload_n 0, 1) := by decide +kernel
theorem dX11_season_50 : decode cX11_season 50 = .ok (.invokevirtual 249, 3) := by decide +kernel
theorem dX11_season_53 : decode cX11_season 53 = .ok (.istore_n 2, 1) := by decide +kernel
theorem dX11_season_54 : decode cX11_season 54 = .ok (.goto (-16), 3) := by decide +kernel
theorem dX11_season_57 : decode cX11_season 57 = .ok (.aload_n 0, 1) := by decide +kernel
theorem dX11_season_58 : decode cX11_season 58 = .ok (.getfield 145, 3) := by decide +kernel
theorem dX11_season_61 : decode cX11_season 61 = .ok (.ifCond .ne 16, 3) := by decide +kernel
theorem dX11_season_64 : decode cX11_season 64 = .ok (.aload_n 0, 1) := by decide +kernel
theorem dX11_season_65 : decode cX11_season 65 = .ok (.getfield 240, 3) := by decide +kernel
theorem dX11_season_68 : decode cX11_season 68 = .ok (.ifCond .le 9, 3) := by decide +kernel
theorem dX11_season_71 : decode cX11_season 71 = .ok (.aload_n 0, 1) := by decide +kernel
theorem dX11_season_72 : decode cX11_season 72 = .ok (.iconst 2, 1) := by decide +kernel
theorem dX11_season_73 : decode cX11_season 73 = .ok (.invokevirtual 157, 3) := by decide +kernel
theorem dX11_season_76 : decode cX11_season 76 = .ok (.pop, 1) := by decide +kernel
theorem dX11_season_77 : decode cX11_season 77 = .ok (.aload_n 0, 1) := by decide +kernel
theorem dX11_season_78 : decode cX11_season 78 = .ok (.getfield 145, 3) := by decide +kernel
theorem dX11_season_81 : decode cX11_season 81 = .ok (.ifCond .ne 50, 3) := by decide +kernel
theorem dX11_season_84 : decode cX11_season 84 = .ok (.aload_n 0, 1) := by decide +kernel
theorem dX11_season_85 : decode cX11_season 85 = .ok (.getfield 7, 3) := by decide +kernel
theorem dX11_season_88 : decode cX11_season 88 = .ok (.iconst 3, 1) := by decide +kernel
theorem dX11_season_89 : decode cX11_season 89 = .ok (.aload_n 0, 1) := by decide +kernel
theorem dX11_season_90 : decode cX11_season 90 = .ok (.getfield 7, 3) := by decide +kernel
theorem dX11_season_93 : decode cX11_season 93 = .ok (.sipush 4163, 3) := by decide +kernel
theorem dX11_season_96 : decode cX11_season 96 = .ok (.iaload, 1) := by decide +kernel
theorem dX11_season_97 : decode cX11_season 97 = .ok (.iastore, 1) := by decide +kernel
theorem dX11_season_98 : decode cX11_season 98 = .ok (.sipush 670, 3) := by decide +kernel
theorem dX11_season_101 : decode cX11_season 101 = .ok (.istore_n 3, 1) := by decide +kernel
theorem dX11_season_102 : decode cX11_season 102 = .ok (.iload_n 3, 1) := by decide +kernel
theorem dX11_season_103 : decode cX11_season 103 = .ok (.sipush 1030, 3) := by decide +kernel
theorem dX11_season_106 : decode cX11_season 106 = .ok (.if_icmp .ge 25, 3) := by decide +kernel
theorem dX11_season_109 : decode cX11_season 109 = .ok (.aload_n 0, 1) := by decide +kernel
theorem dX11_season_110 : decode cX11_season 110 = .ok (.getfield 7, 3) := by decide +kernel
theorem dX11_season_113 : decode cX11_season 113 = .ok (.iload_n 3, 1) := by decide +kernel
theorem dX11_season_114 : decode cX11_season 114 = .ok (.aload_n 0, 1) := by decide +kernel
theorem dX11_season_115 : decode cX11_season 115 = .ok (.getfield 7, 3) := by decide +kernel
theorem dX11_season_118 : decode cX11_season 118 = .ok (.sipush 4160, 3) := by decide +kernel
theorem dX11_season_121 : decode cX11_season 121 = .ok (.iload_n 3, 1) := by decide +kernel
theorem dX11_season_122 : decode cX11_season 122 = .ok (.iadd, 1) := by decide +kernel
theorem dX11_season_123 : decode cX11_season 123 = .ok (.iaload, 1) := by decide +kernel
theorem dX11_season_124 : decode cX11_season 124 = .ok (.iastore, 1) := by decide +kernel
theorem dX11_season_125 : decode cX11_season 125 = .ok (.iinc 3 1, 3) := by decide +kernel
theorem dX11_season_128 : decode cX11_season 128 = .ok (.goto (-26), 3) := by decide +kernel
theorem dX11_season_131 : decode cX11_season 131 = .ok (.aload_n 0, 1) := by decide +kernel
theorem dX11_season_132 : decode cX11_season 132 = .ok (.aload_n 0, 1) := by decide +kernel
theorem dX11_season_133 : decode cX11_season 133 = .ok (.getfield 243, 3) := by decide +kernel
theorem dX11_season_136 : decode cX11_season 136 = .ok (.invokevirtual 231, 3) := by decide +kernel
theorem dX11_season_139 : decode cX11_season 139 = .ok (.ireturn, 1) := by decide +kernel
abbrev rmX11_season : Room := { frames := 11, cells := 0, slots := 0, locals := 245 }
set_option maxHeartbeats 4000000 in
set_option maxRecDepth 100000 in
theorem kX11_season (S : Nat → Nat) (l : Launch) (D : va_G) (cy : Nat → ClassId) (h0 : Nat) (a0 : Nat → Nat) (s0 : Rc) (p1 : Int32) (res : Int32 × Rc) (h : fX11_season p1 s0 = some res) : CI2 S l D cy yX11_season wsX11_season rmX11_season [.ref h0, .int p1] (flat [WX11 cy h0 a0 s0]) (flat [WX11 cy h0 a0 res.2]) res.1 := by
  refine CI2.of (cc := cX11_season) (maxL := 4) (by decide) rfl (Nat.le_of_ble_eq_true rfl) ?_
  intro p e s m args below meth c A QQ ls E hX hr
  obtain ⟨hx, hb, hml, hown, hts, hK, hN, hP, hD, hA, hl⟩ := E
  have hret : ∀ (pc : Nat) (H : Heap) (locs : List Loc) (ls : Array Slot) (u : Int32 × Rc), u = res → va_P D vwCl (flat [WX11 cy h0 a0 u.2]) H → va_D A (flat [WX11 cy h0 a0 u.2]) → va_S A s.heap H locs → decode cX11_season pc = .ok (.ireturn, 1) → W p l e rmX11_season s m args below meth c H locs 0 0 QQ (F0 m pc ls [.int u.1]) := by
    intro pc H locs ls u hu hP hD hS hd; subst hu; exact hr pc H locs ls _ rfl hP hD hS hd
  clear hr
  have hl : lv_has ls 4 [(0, .ref h0), (1, .int p1)] := hl
  have hinX11 : ∀ w ∈ wsX110, w ∈ wsX11_season := fun _ h => List.mem_cons_of_mem _ (List.mem_append_right _ h)
  unfold fX11_season at h
  suffices key : ∀ (H : Heap) (locs : List Loc), va_P D vwCl (flat [WX11 cy h0 a0 s0]) H → va_S A s.heap H locs → W p l e rmX11_season s m args below meth c H locs 0 0 QQ (F0 m 0 ls []) from key _ _ hP va_S.rf
  clear hP
  intro H locs hP hS
  have J77 : ∀ (t77_0 : Rc) (H : Heap) (locs : List Loc) (ls : Array Slot), lv_has ls 4 [(0, .ref h0)] → va_P D vwCl (flat [WX11 cy h0 a0 t77_0]) H → va_D A (flat [WX11 cy h0 a0 t77_0]) → va_S A s.heap H locs → fX11_season_J77 t77_0 = some res → W p l e rmX11_season s m args below meth c H locs 0 0 QQ (F0 m 77 ls []) := by
    intro t77_0 H locs ls hl hP hD hS h
    unfold fX11_season_J77 at h
    refine lv_aload_n hx hb dX11_season_77 rfl (lv_at hl 0 rfl) ?_
    refine va_get (D := D) (ci := 11) (v := .int (gi t77_0 18)) (C := RX11) (T := TX11) (N := 38) hx hb hts hinX11 hown hK hP 0 rfl rfl 18 (by decide) (hts (.fieldLink RX11 145 "KneeBenchModel" "faults" "I") (List.mem_of_getElem? (i := 5) rfl)) (fun _ h9 => h9) rfl dX11_season_78 ?_
    refine lv_if_ne (tgt := 131) hx hb dX11_season_81 (by decide) (fun c1 => ?_) (fun c1 => ?_)
    · replace h := (if_neg c1).symm.trans h
      refine lv_aload_n hx hb dX11_season_131 rfl (lv_at hl 0 rfl) ?_
      refine lv_aload_n hx hb dX11_season_132 rfl (lv_at hl 0 rfl) ?_
      refine va_get (D := D) (ci := 11) (v := .int (gi t77_0 23)) (C := RX11) (T := TX11) (N := 38) hx hb hts hinX11 hown hK hP 0 rfl rfl 23 (by decide) (hts (.fieldLink RX11 243 "KneeBenchModel" "counted" "I") (List.mem_of_getElem? (i := 3) rfl)) (fun _ h9 => h9) rfl dX11_season_133 ?_
      obtain ⟨r2, hr2, h⟩ := lt_elim h
      refine ca_i (w' := [WX11 cy h0 a0 r2.2]) (rn_V (As := [.int (gi t77_0 23)]) (rest := []) ⟨hx, hb, hml, hown, hts⟩ (kX11_taken l D cy h0 a0 t77_0 (gi t77_0 23) r2 hr2.symm H.size) (cwV 1 hts gX11_season_X11_taken rfl rfl rfl (by decide +kernel) ⟨Nat.le_of_ble_eq_true rfl, Nat.le_of_ble_eq_true rfl⟩) hK hN hP hD [0] rfl rfl (ci := 11) (q0 := 0) rfl rfl rfl rfl hl.1 rfl (Nat.le_of_ble_eq_true rfl) dX11_season_136 ⟨Nat.le_refl 0, Nat.le_refl 0⟩) hP hD hS hA [0] ⟨rfl, rfl, rfl, rfl⟩ (fun H locs hP hD hS => ?_)
      exact hret 139 H locs ls (r2.1, r2.2) (Option.some.inj h) hP hD hS dX11_season_139
    · replace h := (if_pos c1).symm.trans h
      refine lv_aload_n hx hb dX11_season_84 rfl (lv_at hl 0 rfl) ?_
      refine va_get (D := D) (ci := 11) (v := .ref (a0 0)) (C := RX11) (T := TX11) (N := 38) hx hb hts hinX11 hown hK hP 0 rfl rfl 0 (by decide) (hts (.fieldLink RX11 7 "KneeBenchModel" "at" "[I") (List.mem_of_getElem? (i := 1) rfl)) (fun _ h9 => h9) rfl dX11_season_85 ?_
      refine lv_iconst (v := 3) hx hb dX11_season_88 (by decide) ?_
      refine lv_aload_n hx hb dX11_season_89 rfl (lv_at hl 0 rfl) ?_
      refine va_get (D := D) (ci := 11) (v := .ref (a0 0)) (C := RX11) (T := TX11) (N := 38) hx hb hts hinX11 hown hK hP 0 rfl rfl 0 (by decide) (hts (.fieldLink RX11 7 "KneeBenchModel" "at" "[I") (List.mem_of_getElem? (i := 1) rfl)) (fun _ h9 => h9) rfl dX11_season_90 ?_
      refine lv_sipush (v := 4163) hx hb dX11_season_93 (by decide) ?_
      refine va_iald hx hb hK hP 1 1 rfl rfl (inb_in (by decide)) dX11_season_96 ?_
      obtain ⟨s0_3, es, h⟩ := lt_elim h
      refine va_iast hx hb hK hP hD hS 1 1 rfl rfl (inb_in (by decide)) dX11_season_97 (fun H locs hP hD hS => ?_)
      have hP : va_P D vwCl (flat [WX11 cy h0 a0 s0_3]) H := by rw [es]; exact hP
      have hD : va_D A (flat [WX11 cy h0 a0 s0_3]) := by rw [es]; exact hD
      clear es
      refine lv_sipush (v := 670) hx hb dX11_season_98 (by decide) ?_
      refine lv_istore_n (lv' := [(3, .int (670 : Int32)), (0, .ref h0)]) hx hb dX11_season_101 rfl hl (by decide) rfl (fun ls hl => ?_)
      have L102 : ∀ (n : Nat) (q102 : Int32 × Rc) (o : Rc), loopO (fX11_season_L102) n q102 = some o → ∀ (H : Heap) (locs : List Loc) (ls : Array Slot), lv_has ls 4 [(0, .ref h0), (3, .int q102.1)] → va_P D vwCl (flat [WX11 cy h0 a0 q102.2]) H → va_D A (flat [WX11 cy h0 a0 q102.2]) → va_S A s.heap H locs → ∀ (kk131 : ∀ (H : Heap) (locs : List Loc) (ls : Array Slot), lv_has ls 4 [(0, .ref h0)] → va_P D vwCl (flat [WX11 cy h0 a0 o]) H → va_D A (flat [WX11 cy h0 a0 o]) → va_S A s.heap H locs → W p l e rmX11_season s m args below meth c H locs 0 0 QQ (F0 m 131 ls [])), W p l e rmX11_season s m args below meth c H locs 0 0 QQ (F0 m 102 ls []) := by
        intro n
        induction n with
        | zero => intro q102 o h; exact absurd h (by rw [loopO_zero]; intro z; cases z)
        | succ n ih =>
          intro q102 o h H locs ls hl hP hD hS kk131
          obtain ⟨w, h, hgo, hst⟩ := loopO_elim h
          unfold fX11_season_L102 at h
          refine lv_iload_n hx hb dX11_season_102 rfl (lv_at hl 1 rfl) ?_
          refine lv_sipush (v := 1030) hx hb dX11_season_103 (by decide) ?_
          refine lv_icmp_ge (tgt := 131) hx hb dX11_season_106 (by decide) (fun c4 => ?_) (fun c4 => ?_)
          · replace h := (if_pos c4).symm.trans h
            have eo := hst _ (Option.some.inj h).symm
            subst eo
            exact kk131 H locs ls (lv_sub hl [0] rfl) hP hD hS
          · replace h := (if_neg c4).symm.trans h
            refine lv_aload_n hx hb dX11_season_109 rfl (lv_at hl 0 rfl) ?_
            refine va_get (D := D) (ci := 11) (v := .ref (a0 0)) (C := RX11) (T := TX11) (N := 38) hx hb hts hinX11 hown hK hP 0 rfl rfl 0 (by decide) (hts (.fieldLink RX11 7 "KneeBenchModel" "at" "[I") (List.mem_of_getElem? (i := 1) rfl)) (fun _ h9 => h9) rfl dX11_season_110 ?_
            refine lv_iload_n hx hb dX11_season_113 rfl (lv_at hl 1 rfl) ?_
            refine lv_aload_n hx hb dX11_season_114 rfl (lv_at hl 0 rfl) ?_
            refine va_get (D := D) (ci := 11) (v := .ref (a0 0)) (C := RX11) (T := TX11) (N := 38) hx hb hts hinX11 hown hK hP 0 rfl rfl 0 (by decide) (hts (.fieldLink RX11 7 "KneeBenchModel" "at" "[I") (List.mem_of_getElem? (i := 1) rfl)) (fun _ h9 => h9) rfl dX11_season_115 ?_
            refine lv_sipush (v := 4160) hx hb dX11_season_118 (by decide) ?_
            refine lv_iload_n hx hb dX11_season_121 rfl (lv_at hl 1 rfl) ?_
            refine lv_iadd hx hb dX11_season_122 ?_
            obtain ⟨g5, h⟩ := gd_elim h
            refine va_iald hx hb hK hP 1 1 rfl rfl (inb_in g5) dX11_season_123 ?_
            obtain ⟨g6, h⟩ := gd_elim h
            obtain ⟨s0_7, es, h⟩ := lt_elim h
            refine va_iast hx hb hK hP hD hS 1 1 rfl rfl (inb_in g6) dX11_season_124 (fun H locs hP hD hS => ?_)
            have hP : va_P D vwCl (flat [WX11 cy h0 a0 s0_7]) H := by rw [es]; exact hP
            have hD : va_D A (flat [WX11 cy h0 a0 s0_7]) := by rw [es]; exact hD
            clear es
            refine lv_iinc (v := (q102.1 + (1 : Int32))) (lv' := [(3, .int (q102.1 + (1 : Int32))), (0, .ref h0)]) hx hb dX11_season_125 hl (k := 1) rfl rfl (by decide) rfl (fun ls hl => ?_)
            refine lv_goto (tgt := 102) hx hb dX11_season_128 (by decide) ?_
            exact ih _ o (hgo _ (Option.some.inj h).symm) H locs ls (lv_sub hl [1, 0] rfl) hP hD hS kk131
      obtain ⟨o102, ho102, h⟩ := bd_elim h
      obtain ⟨n102, hn102⟩ := loopF_some ho102
      refine L102 n102 _ o102 hn102 H locs ls (lv_sub hl [1, 0] rfl) hP hD hS (fun H locs ls hl hP hD hS => ?_)
      refine lv_aload_n hx hb dX11_season_131 rfl (lv_at hl 0 rfl) ?_
      refine lv_aload_n hx hb dX11_season_132 rfl (lv_at hl 0 rfl) ?_
      refine va_get (D := D) (ci := 11) (v := .int (gi o102 23)) (C := RX11) (T := TX11) (N := 38) hx hb hts hinX11 hown hK hP 0 rfl rfl 23 (by decide) (hts (.fieldLink RX11 243 "KneeBenchModel" "counted" "I") (List.mem_of_getElem? (i := 3) rfl)) (fun _ h9 => h9) rfl dX11_season_133 ?_
      obtain ⟨r8, hr8, h⟩ := lt_elim h
      refine ca_i (w' := [WX11 cy h0 a0 r8.2]) (rn_V (As := [.int (gi o102 23)]) (rest := []) ⟨hx, hb, hml, hown, hts⟩ (kX11_taken l D cy h0 a0 o102 (gi o102 23) r8 hr8.symm H.size) (cwV 1 hts gX11_season_X11_taken rfl rfl rfl (by decide +kernel) ⟨Nat.le_of_ble_eq_true rfl, Nat.le_of_ble_eq_true rfl⟩) hK hN hP hD [0] rfl rfl (ci := 11) (q0 := 0) rfl rfl rfl rfl hl.1 rfl (Nat.le_of_ble_eq_true rfl) dX11_season_136 ⟨Nat.le_refl 0, Nat.le_refl 0⟩) hP hD hS hA [0] ⟨rfl, rfl, rfl, rfl⟩ (fun H locs hP hD hS => ?_)
      exact hret 139 H locs ls (r8.1, r8.2) (Option.some.inj h) hP hD hS dX11_season_139
  have J57 : ∀ (t57_0 : Rc) (H : Heap) (locs : List Loc) (ls : Array Slot), lv_has ls 4 [(0, .ref h0)] → va_P D vwCl (flat [WX11 cy h0 a0 t57_0]) H → va_D A (flat [WX11 cy h0 a0 t57_0]) → va_S A s.heap H locs → fX11_season_J57 t57_0 = some res → W p l e rmX11_season s m args below meth c H locs 0 0 QQ (F0 m 57 ls []) := by
    intro t57_0 H locs ls hl hP hD hS h
    unfold fX11_season_J57 at h
    refine lv_aload_n hx hb dX11_season_57 rfl (lv_at hl 0 rfl) ?_
    refine va_get (D := D) (ci := 11) (v := .int (gi t57_0 18)) (C := RX11) (T := TX11) (N := 38) hx hb hts hinX11 hown hK hP 0 rfl rfl 18 (by decide) (hts (.fieldLink RX11 145 "KneeBenchModel" "faults" "I") (List.mem_of_getElem? (i := 5) rfl)) (fun _ h9 => h9) rfl dX11_season_58 ?_
    refine lv_if_ne (tgt := 77) hx hb dX11_season_61 (by decide) (fun c9 => ?_) (fun c9 => ?_)
    · replace h := (if_neg c9).symm.trans h
      exact J77 t57_0 H locs ls (lv_sub hl [0] rfl) hP hD hS h
    · replace h := (if_pos c9).symm.trans h
      refine lv_aload_n hx hb dX11_season_64 rfl (lv_at hl 0 rfl) ?_
      refine va_get (D := D) (ci := 11) (v := .int (gi t57_0 22)) (C := RX11) (T := TX11) (N := 38) hx hb hts hinX11 hown hK hP 0 rfl rfl 22 (by decide) (hts (.fieldLink RX11 240 "KneeBenchModel" "depth" "I") (List.mem_of_getElem? (i := 2) rfl)) (fun _ h9 => h9) rfl dX11_season_65 ?_
      refine lv_if_le (tgt := 77) hx hb dX11_season_68 (by decide) (fun c10 => ?_) (fun c10 => ?_)
      · replace h := (if_pos c10).symm.trans h
        exact J77 t57_0 H locs ls (lv_sub hl [0] rfl) hP hD hS h
      · replace h := (if_neg c10).symm.trans h
        refine lv_aload_n hx hb dX11_season_71 rfl (lv_at hl 0 rfl) ?_
        refine lv_iconst (v := 2) hx hb dX11_season_72 (by decide) ?_
        obtain ⟨r11, hr11, h⟩ := lt_elim h
        refine ca_z (w' := [WX11 cy h0 a0 r11.2]) (rn_V (As := [.int (2 : Int32)]) (rest := []) ⟨hx, hb, hml, hown, hts⟩ (kX11_fails l D cy h0 a0 t57_0 (2 : Int32) r11 hr11.symm H.size) (cwV 1 hts gX11_season_X11_fails rfl rfl rfl (by decide +kernel) ⟨Nat.le_of_ble_eq_true rfl, Nat.le_of_ble_eq_true rfl⟩) hK hN hP hD [0] rfl rfl (ci := 11) (q0 := 0) rfl rfl rfl rfl hl.1 rfl (Nat.le_of_ble_eq_true rfl) dX11_season_73 ⟨Nat.le_refl 0, Nat.le_refl 0⟩) hP hD hS hA [0] ⟨rfl, rfl, rfl, rfl⟩ (fun b12 H locs hP hD hS => ?_)
        refine lv_pop hx hb dX11_season_76 rfl ?_
        exact J77 r11.2 H locs ls (lv_sub hl [0] rfl) hP hD hS h
  refine lv_aload_n hx hb dX11_season_0 rfl (lv_at hl 0 rfl) ?_
  refine lv_iload_n hx hb dX11_season_1 rfl (lv_at hl 1 rfl) ?_
  refine lv_sipush (v := 300) hx hb dX11_season_2 (by decide) ?_
  obtain ⟨r13, hr13, h⟩ := bd_elim h
  refine ca_z (w' := [WX11 cy h0 a0 r13.2]) (rn_V (As := [.int p1, .int (300 : Int32)]) (rest := []) ⟨hx, hb, hml, hown, hts⟩ (kX11_begins l D cy h0 a0 s0 p1 (300 : Int32) r13 hr13 H.size) (cwV 2 hts gX11_season_X11_begins rfl rfl rfl (by decide +kernel) ⟨Nat.le_of_ble_eq_true rfl, Nat.le_of_ble_eq_true rfl⟩) hK hN hP hD [0] rfl rfl (ci := 11) (q0 := 0) rfl rfl rfl rfl hl.1 rfl (Nat.le_of_ble_eq_true rfl) dX11_season_5 ⟨Nat.le_refl 0, Nat.le_refl 0⟩) hP hD hS hA [0] ⟨rfl, rfl, rfl, rfl⟩ (fun b14 H locs hP hD hS => ?_)
  refine lv_if_ne (tgt := 17) hx hb dX11_season_8 (by decide) (fun c15 => ?_) (fun c15 => ?_)
  · replace h := (if_neg c15).symm.trans h
    refine lv_aload_n hx hb dX11_season_17 rfl (lv_at hl 0 rfl) ?_
    refine va_get (D := D) (ci := 11) (v := .ref (a0 0)) (C := RX11) (T := TX11) (N := 38) hx hb hts hinX11 hown hK hP 0 rfl rfl 0 (by decide) (hts (.fieldLink RX11 7 "KneeBenchModel" "at" "[I") (List.mem_of_getElem? (i := 1) rfl)) (fun _ h9 => h9) rfl dX11_season_18 ?_
    refine lv_sipush (v := 4163) hx hb dX11_season_21 (by decide) ?_
    refine lv_iconst (v := 0) hx hb dX11_season_24 (by decide) ?_
    obtain ⟨s0_16, es, h⟩ := lt_elim h
    refine va_iast hx hb hK hP hD hS 1 1 rfl rfl (inb_in (by decide)) dX11_season_25 (fun H locs hP hD hS => ?_)
    have hP : va_P D vwCl (flat [WX11 cy h0 a0 s0_16]) H := by rw [es]; exact hP
    have hD : va_D A (flat [WX11 cy h0 a0 s0_16]) := by rw [es]; exact hD
    clear es
    refine lv_aload_n hx hb dX11_season_26 rfl (lv_at hl 0 rfl) ?_
    refine lv_iconst (v := 0) hx hb dX11_season_27 (by decide) ?_
    obtain ⟨s0_17, es, h⟩ := lt_elim h
    refine va_put (D := D) (ci := 11) (v := .int (0 : Int32)) (ty := .int) (C := RX11) (T := TX11) (N := 38) hx hb hts hinX11 tyX11 tyX11_ok nmX11 hown hK hP hD hS 0 rfl rfl 22 (by decide) (hts (.fieldLink RX11 240 "KneeBenchModel" "depth" "I") (List.mem_of_getElem? (i := 2) rfl)) (fun _ h9 => h9) rfl (by decide +kernel) rfl rfl (Nat.le_of_ble_eq_true rfl) dX11_season_28 (fun H locs hP hD hS => ?_)
    have hP : va_P D vwCl (flat [WX11 cy h0 a0 s0_17]) H := by rw [es]; exact hP
    have hD : va_D A (flat [WX11 cy h0 a0 s0_17]) := by rw [es]; exact hD
    clear es
    refine lv_aload_n hx hb dX11_season_31 rfl (lv_at hl 0 rfl) ?_
    refine lv_iconst (v := 0) hx hb dX11_season_32 (by decide) ?_
    obtain ⟨s0_18, es, h⟩ := lt_elim h
    refine va_put (D := D) (ci := 11) (v := .int (0 : Int32)) (ty := .int) (C := RX11) (T := TX11) (N := 38) hx hb hts hinX11 tyX11 tyX11_ok nmX11 hown hK hP hD hS 0 rfl rfl 23 (by decide) (hts (.fieldLink RX11 243 "KneeBenchModel" "counted" "I") (List.mem_of_getElem? (i := 3) rfl)) (fun _ h9 => h9) rfl (by decide +kernel) rfl rfl (Nat.le_of_ble_eq_true rfl) dX11_season_33 (fun H locs hP hD hS => ?_)
    have hP : va_P D vwCl (flat [WX11 cy h0 a0 s0_18]) H := by rw [es]; exact hP
    have hD : va_D A (flat [WX11 cy h0 a0 s0_18]) := by rw [es]; exact hD
    clear es
    refine lv_iconst (v := 1) hx hb dX11_season_36 (by decide) ?_
    refine lv_istore_n (lv' := [(2, .int (1 : Int32)), (0, .ref h0), (1, .int p1)]) hx hb dX11_season_37 rfl hl (by decide) rfl (fun ls hl => ?_)
    have L38 : ∀ (n : Nat) (q38 : Int32 × Rc) (o : Rc), loopO (fX11_season_L38) n q38 = some o → ∀ (H : Heap) (locs : List Loc) (ls : Array Slot), lv_has ls 4 [(0, .ref h0), (2, .int q38.1)] → va_P D vwCl (flat [WX11 cy h0 a0 q38.2]) H → va_D A (flat [WX11 cy h0 a0 q38.2]) → va_S A s.heap H locs → ∀ (kk57 : ∀ (H : Heap) (locs : List Loc) (ls : Array Slot), lv_has ls 4 [(0, .ref h0)] → va_P D vwCl (flat [WX11 cy h0 a0 o]) H → va_D A (flat [WX11 cy h0 a0 o]) → va_S A s.heap H locs → W p l e rmX11_season s m args below meth c H locs 0 0 QQ (F0 m 57 ls [])), W p l e rmX11_season s m args below meth c H locs 0 0 QQ (F0 m 38 ls []) := by
      intro n
      induction n with
      | zero => intro q38 o h; exact absurd h (by rw [loopO_zero]; intro z; cases z)
      | succ n ih =>
        intro q38 o h H locs ls hl hP hD hS kk57
        obtain ⟨w, h, hgo, hst⟩ := loopO_elim h
        unfold fX11_season_L38 at h
        refine lv_iload_n hx hb dX11_season_38 rfl (lv_at hl 1 rfl) ?_
        refine lv_if_eq (tgt := 57) hx hb dX11_season_39 (by decide) (fun c19 => ?_) (fun c19 => ?_)
        · replace h := (if_pos c19).symm.trans h
          have eo := hst _ (Option.some.inj h).symm
          subst eo
          exact kk57 H locs ls (lv_sub hl [0] rfl) hP hD hS
        · replace h := (if_neg c19).symm.trans h
          refine lv_aload_n hx hb dX11_season_42 rfl (lv_at hl 0 rfl) ?_
          refine va_get (D := D) (ci := 11) (v := .int (gi q38.2 12)) (C := RX11) (T := TX11) (N := 38) hx hb hts hinX11 hown hK hP 0 rfl rfl 12 (by decide) (hts (.fieldLink RX11 120 "KneeBenchModel" "token" "I") (List.mem_of_getElem? (i := 4) rfl)) (fun _ h9 => h9) rfl dX11_season_43 ?_
          refine lv_if_eq (tgt := 57) hx hb dX11_season_46 (by decide) (fun c20 => ?_) (fun c20 => ?_)
          · replace h := (if_pos c20).symm.trans h
            have eo := hst _ (Option.some.inj h).symm
            subst eo
            exact kk57 H locs ls (lv_sub hl [0] rfl) hP hD hS
          · replace h := (if_neg c20).symm.trans h
            refine lv_aload_n hx hb dX11_season_49 rfl (lv_at hl 0 rfl) ?_
            obtain ⟨r21, hr21, h⟩ := bd_elim h
            refine ca_z (w' := [WX11 cy h0 a0 r21.2]) (rn_V2 (As := []) (rest := []) ⟨hx, hb, hml, hown, hts⟩ (kX11_seasonStep S l D cy h0 a0 q38.2 r21 hr21 H.size) (cwV 0 hts gX11_season_X11_seasonStep rfl rfl rfl (by decide +kernel) ⟨Nat.le_of_ble_eq_true rfl, Nat.le_of_ble_eq_true rfl⟩) hK hN hX hP hD hS hA [0] rfl rfl (ci := 11) (q0 := 0) rfl rfl rfl rfl hl.1 rfl (Nat.le_of_ble_eq_true rfl) dX11_season_50 ⟨Nat.le_refl 0, Nat.le_refl 0⟩) hP hD hS hA [0] ⟨rfl, rfl, rfl, rfl⟩ (fun b22 H locs hP hD hS => ?_)
            refine lv_istore_n (lv' := [(2, .int r21.1), (0, .ref h0)]) hx hb dX11_season_53 rfl hl (by decide) rfl (fun ls hl => ?_)
            refine lv_goto (tgt := 38) hx hb dX11_season_54 (by decide) ?_
            exact ih _ o (hgo _ (Option.some.inj h).symm) H locs ls (lv_sub hl [1, 0] rfl) hP hD hS kk57
    obtain ⟨o38, ho38, h⟩ := bd_elim h
    obtain ⟨n38, hn38⟩ := loopF_some ho38
    refine L38 n38 _ o38 hn38 H locs ls (lv_sub hl [1, 0] rfl) hP hD hS (fun H locs ls hl hP hD hS => ?_)
    exact J57 o38 H locs ls (lv_sub hl [0] rfl) hP hD hS h
  · replace h := (if_pos c15).symm.trans h
    refine lv_aload_n hx hb dX11_season_11 rfl (lv_at hl 0 rfl) ?_
    refine lv_iconst (v := 1) hx hb dX11_season_12 (by decide) ?_
    obtain ⟨r23, hr23, h⟩ := lt_elim h
    refine ca_i (w' := [WX11 cy h0 a0 r23.2]) (rn_V (As := [.int (1 : Int32)]) (rest := []) ⟨hx, hb, hml, hown, hts⟩ (kX11_refuse l D cy h0 a0 r13.2 (1 : Int32) r23 hr23.symm H.size) (cwV 1 hts gX11_season_X11_refuse rfl rfl rfl (by decide +kernel) ⟨Nat.le_of_ble_eq_true rfl, Nat.le_of_ble_eq_true rfl⟩) hK hN hP hD [0] rfl rfl (ci := 11) (q0 := 0) rfl rfl rfl rfl hl.1 rfl (Nat.le_of_ble_eq_true rfl) dX11_season_13 ⟨Nat.le_refl 0, Nat.le_refl 0⟩) hP hD hS hA [0] ⟨rfl, rfl, rfl, rfl⟩ (fun H locs hP hD hS => ?_)
    exact hret 16 H locs ls (r23.1, r23.2) (Option.some.inj h) hP hD hS dX11_season_16
