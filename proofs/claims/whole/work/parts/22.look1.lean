/-! ===== what stands where (written by wip/whole/gen_look.py) ===== -/
theorem mx_0 : (mj_m 0).2.2.1 = 2 := by decide +kernel
theorem rt_0 : (mj_m 0).2.2.2.1 = none := by decide +kernel
theorem dp_0 : mj_disp 0 11 = some 0 := by decide +kernel
theorem pq_0 : mj_prog 0 = mj_p0 := rfl
theorem k0_0 : mj_look (mj_prog 0) 0 = some (.aload_n 0, 1, 0, 0) := by decide +kernel
theorem k0_1 : mj_look (mj_prog 0) 1 = some (.invokespecial 1, 3, 3000, 0) := by decide +kernel
theorem k0_4 : mj_look (mj_prog 0) 4 = some (.aload_n 0, 1, 0, 0) := by decide +kernel
theorem k0_5 : mj_look (mj_prog 0) 5 = some (.bipush 6, 2, 0, 0) := by decide +kernel
theorem k0_7 : mj_look (mj_prog 0) 7 = some (.anewarray 7, 3, 23, 0) := by decide +kernel
theorem k0_10 : mj_look (mj_prog 0) 10 = some (.dup, 1, 0, 0) := by decide +kernel
theorem k0_11 : mj_look (mj_prog 0) 11 = some (.iconst 0, 1, 0, 0) := by decide +kernel
theorem k0_12 : mj_look (mj_prog 0) 12 = some (.new 7, 3, 1, 0) := by decide +kernel
theorem k0_15 : mj_look (mj_prog 0) 15 = some (.dup, 1, 0, 0) := by decide +kernel
theorem k0_16 : mj_look (mj_prog 0) 16 = some (.invokespecial 9, 3, 1, 0) := by decide +kernel
theorem k0_19 : mj_look (mj_prog 0) 19 = some (.aastore, 1, 0, 0) := by decide +kernel
theorem k0_20 : mj_look (mj_prog 0) 20 = some (.dup, 1, 0, 0) := by decide +kernel
theorem k0_21 : mj_look (mj_prog 0) 21 = some (.iconst 1, 1, 0, 0) := by decide +kernel
theorem k0_22 : mj_look (mj_prog 0) 22 = some (.new 10, 3, 3, 0) := by decide +kernel
theorem k0_25 : mj_look (mj_prog 0) 25 = some (.dup, 1, 0, 0) := by decide +kernel
theorem k0_26 : mj_look (mj_prog 0) 26 = some (.invokespecial 12, 3, 2, 0) := by decide +kernel
theorem k0_29 : mj_look (mj_prog 0) 29 = some (.aastore, 1, 0, 0) := by decide +kernel
theorem k0_30 : mj_look (mj_prog 0) 30 = some (.dup, 1, 0, 0) := by decide +kernel
theorem k0_31 : mj_look (mj_prog 0) 31 = some (.iconst 2, 1, 0, 0) := by decide +kernel
theorem k0_32 : mj_look (mj_prog 0) 32 = some (.new 13, 3, 5, 0) := by decide +kernel
theorem k0_35 : mj_look (mj_prog 0) 35 = some (.dup, 1, 0, 0) := by decide +kernel
theorem k0_36 : mj_look (mj_prog 0) 36 = some (.invokespecial 15, 3, 3, 0) := by decide +kernel
theorem k0_39 : mj_look (mj_prog 0) 39 = some (.aastore, 1, 0, 0) := by decide +kernel
theorem k0_40 : mj_look (mj_prog 0) 40 = some (.dup, 1, 0, 0) := by decide +kernel
theorem k0_41 : mj_look (mj_prog 0) 41 = some (.iconst 3, 1, 0, 0) := by decide +kernel
theorem k0_42 : mj_look (mj_prog 0) 42 = some (.new 16, 3, 4, 0) := by decide +kernel
theorem k0_45 : mj_look (mj_prog 0) 45 = some (.dup, 1, 0, 0) := by decide +kernel
theorem k0_46 : mj_look (mj_prog 0) 46 = some (.invokespecial 18, 3, 4, 0) := by decide +kernel
theorem k0_49 : mj_look (mj_prog 0) 49 = some (.aastore, 1, 0, 0) := by decide +kernel
theorem k0_50 : mj_look (mj_prog 0) 50 = some (.dup, 1, 0, 0) := by decide +kernel
theorem k0_51 : mj_look (mj_prog 0) 51 = some (.iconst 4, 1, 0, 0) := by decide +kernel
theorem k0_52 : mj_look (mj_prog 0) 52 = some (.new 19, 3, 0, 0) := by decide +kernel
theorem k0_55 : mj_look (mj_prog 0) 55 = some (.dup, 1, 0, 0) := by decide +kernel
theorem k0_56 : mj_look (mj_prog 0) 56 = some (.invokespecial 21, 3, 5, 0) := by decide +kernel
theorem k0_59 : mj_look (mj_prog 0) 59 = some (.aastore, 1, 0, 0) := by decide +kernel
theorem k0_60 : mj_look (mj_prog 0) 60 = some (.dup, 1, 0, 0) := by decide +kernel
theorem k0_61 : mj_look (mj_prog 0) 61 = some (.iconst 5, 1, 0, 0) := by decide +kernel
theorem k0_62 : mj_look (mj_prog 0) 62 = some (.new 22, 3, 2, 0) := by decide +kernel
theorem k0_65 : mj_look (mj_prog 0) 65 = some (.dup, 1, 0, 0) := by decide +kernel
theorem k0_66 : mj_look (mj_prog 0) 66 = some (.invokespecial 24, 3, 6, 0) := by decide +kernel
theorem k0_69 : mj_look (mj_prog 0) 69 = some (.aastore, 1, 0, 0) := by decide +kernel
theorem k0_70 : mj_look (mj_prog 0) 70 = some (.putfield 25, 3, 11, 0) := by decide +kernel
theorem k0_73 : mj_look (mj_prog 0) 73 = some (.aload_n 0, 1, 0, 0) := by decide +kernel
theorem k0_74 : mj_look (mj_prog 0) 74 = some (.bipush 15, 2, 0, 0) := by decide +kernel
theorem k0_76 : mj_look (mj_prog 0) 76 = some (.anewarray 31, 3, 24, 0) := by decide +kernel
theorem k0_79 : mj_look (mj_prog 0) 79 = some (.putfield 33, 3, 11, 1) := by decide +kernel
theorem k0_82 : mj_look (mj_prog 0) 82 = some (.aload_n 0, 1, 0, 0) := by decide +kernel
theorem k0_83 : mj_look (mj_prog 0) 83 = some (.new 37, 3, 9, 0) := by decide +kernel
theorem k0_86 : mj_look (mj_prog 0) 86 = some (.dup, 1, 0, 0) := by decide +kernel
theorem k0_87 : mj_look (mj_prog 0) 87 = some (.invokespecial 39, 3, 7, 0) := by decide +kernel
theorem k0_90 : mj_look (mj_prog 0) 90 = some (.putfield 40, 3, 11, 2) := by decide +kernel
theorem k0_93 : mj_look (mj_prog 0) 93 = some (.aload_n 0, 1, 0, 0) := by decide +kernel
theorem k0_94 : mj_look (mj_prog 0) 94 = some (.new 44, 3, 6, 0) := by decide +kernel
theorem k0_97 : mj_look (mj_prog 0) 97 = some (.dup, 1, 0, 0) := by decide +kernel
theorem k0_98 : mj_look (mj_prog 0) 98 = some (.aload_n 0, 1, 0, 0) := by decide +kernel
theorem k0_99 : mj_look (mj_prog 0) 99 = some (.getfield 25, 3, 11, 0) := by decide +kernel
theorem k0_102 : mj_look (mj_prog 0) 102 = some (.aload_n 0, 1, 0, 0) := by decide +kernel
theorem k0_103 : mj_look (mj_prog 0) 103 = some (.getfield 33, 3, 11, 1) := by decide +kernel
theorem k0_106 : mj_look (mj_prog 0) 106 = some (.invokespecial 46, 3, 8, 2) := by decide +kernel
theorem k0_109 : mj_look (mj_prog 0) 109 = some (.putfield 49, 3, 11, 3) := by decide +kernel
theorem k0_112 : mj_look (mj_prog 0) 112 = some (.aload_n 0, 1, 0, 0) := by decide +kernel
theorem k0_113 : mj_look (mj_prog 0) 113 = some (.new 44, 3, 6, 0) := by decide +kernel
theorem k0_116 : mj_look (mj_prog 0) 116 = some (.dup, 1, 0, 0) := by decide +kernel
theorem k0_117 : mj_look (mj_prog 0) 117 = some (.aload_n 0, 1, 0, 0) := by decide +kernel
theorem k0_118 : mj_look (mj_prog 0) 118 = some (.getfield 25, 3, 11, 0) := by decide +kernel
theorem k0_121 : mj_look (mj_prog 0) 121 = some (.aload_n 0, 1, 0, 0) := by decide +kernel
theorem k0_122 : mj_look (mj_prog 0) 122 = some (.getfield 33, 3, 11, 1) := by decide +kernel
theorem k0_125 : mj_look (mj_prog 0) 125 = some (.invokespecial 46, 3, 8, 2) := by decide +kernel
theorem k0_128 : mj_look (mj_prog 0) 128 = some (.putfield 53, 3, 11, 4) := by decide +kernel
theorem k0_131 : mj_look (mj_prog 0) 131 = some (.aload_n 0, 1, 0, 0) := by decide +kernel
theorem k0_132 : mj_look (mj_prog 0) 132 = some (.new 44, 3, 6, 0) := by decide +kernel
theorem k0_135 : mj_look (mj_prog 0) 135 = some (.dup, 1, 0, 0) := by decide +kernel
theorem k0_136 : mj_look (mj_prog 0) 136 = some (.aload_n 0, 1, 0, 0) := by decide +kernel
theorem k0_137 : mj_look (mj_prog 0) 137 = some (.getfield 25, 3, 11, 0) := by decide +kernel
theorem k0_140 : mj_look (mj_prog 0) 140 = some (.aload_n 0, 1, 0, 0) := by decide +kernel
theorem k0_141 : mj_look (mj_prog 0) 141 = some (.getfield 33, 3, 11, 1) := by decide +kernel
theorem k0_144 : mj_look (mj_prog 0) 144 = some (.invokespecial 46, 3, 8, 2) := by decide +kernel
theorem k0_147 : mj_look (mj_prog 0) 147 = some (.putfield 56, 3, 11, 5) := by decide +kernel
theorem k0_150 : mj_look (mj_prog 0) 150 = some (.aload_n 0, 1, 0, 0) := by decide +kernel
theorem k0_151 : mj_look (mj_prog 0) 151 = some (.iconst 0, 1, 0, 0) := by decide +kernel
theorem k0_152 : mj_look (mj_prog 0) 152 = some (.putfield 59, 3, 11, 6) := by decide +kernel
theorem k0_155 : mj_look (mj_prog 0) 155 = some (.aload_n 0, 1, 0, 0) := by decide +kernel
theorem k0_156 : mj_look (mj_prog 0) 156 = some (.iconst 4, 1, 0, 0) := by decide +kernel
theorem k0_157 : mj_look (mj_prog 0) 157 = some (.anewarray 63, 3, 25, 0) := by decide +kernel
theorem k0_160 : mj_look (mj_prog 0) 160 = some (.putfield 65, 3, 11, 7) := by decide +kernel
theorem k0_163 : mj_look (mj_prog 0) 163 = some (.aload_n 0, 1, 0, 0) := by decide +kernel
theorem k0_164 : mj_look (mj_prog 0) 164 = some (.iconst 5, 1, 0, 0) := by decide +kernel
theorem k0_165 : mj_look (mj_prog 0) 165 = some (.anewarray 69, 3, 26, 0) := by decide +kernel
theorem k0_168 : mj_look (mj_prog 0) 168 = some (.putfield 71, 3, 11, 8) := by decide +kernel
theorem k0_171 : mj_look (mj_prog 0) 171 = some (.aload_n 0, 1, 0, 0) := by decide +kernel
theorem k0_172 : mj_look (mj_prog 0) 172 = some (.bipush 60, 2, 0, 0) := by decide +kernel
theorem k0_174 : mj_look (mj_prog 0) 174 = some (.newarray .int, 2, 20, 0) := by decide +kernel
theorem k0_176 : mj_look (mj_prog 0) 176 = some (.putfield 75, 3, 11, 9) := by decide +kernel
theorem k0_179 : mj_look (mj_prog 0) 179 = some (.aload_n 0, 1, 0, 0) := by decide +kernel
theorem k0_180 : mj_look (mj_prog 0) 180 = some (.iconst 0, 1, 0, 0) := by decide +kernel
theorem k0_181 : mj_look (mj_prog 0) 181 = some (.putfield 79, 3, 11, 10) := by decide +kernel
theorem k0_184 : mj_look (mj_prog 0) 184 = some (.iconst 0, 1, 0, 0) := by decide +kernel
theorem k0_185 : mj_look (mj_prog 0) 185 = some (.istore_n 1, 1, 0, 0) := by decide +kernel
theorem k0_186 : mj_look (mj_prog 0) 186 = some (.iload_n 1, 1, 0, 0) := by decide +kernel
theorem k0_187 : mj_look (mj_prog 0) 187 = some (.aload_n 0, 1, 0, 0) := by decide +kernel
theorem k0_188 : mj_look (mj_prog 0) 188 = some (.getfield 33, 3, 11, 1) := by decide +kernel
theorem k0_191 : mj_look (mj_prog 0) 191 = some (.arraylength, 1, 0, 0) := by decide +kernel
theorem k0_192 : mj_look (mj_prog 0) 192 = some (.if_icmp .ge 22, 3, 214, 0) := by decide +kernel
theorem k0_195 : mj_look (mj_prog 0) 195 = some (.aload_n 0, 1, 0, 0) := by decide +kernel
theorem k0_196 : mj_look (mj_prog 0) 196 = some (.getfield 33, 3, 11, 1) := by decide +kernel
theorem k0_199 : mj_look (mj_prog 0) 199 = some (.iload_n 1, 1, 0, 0) := by decide +kernel
theorem k0_200 : mj_look (mj_prog 0) 200 = some (.new 31, 3, 10, 0) := by decide +kernel
theorem k0_203 : mj_look (mj_prog 0) 203 = some (.dup, 1, 0, 0) := by decide +kernel
theorem k0_204 : mj_look (mj_prog 0) 204 = some (.invokespecial 83, 3, 9, 0) := by decide +kernel
theorem k0_207 : mj_look (mj_prog 0) 207 = some (.aastore, 1, 0, 0) := by decide +kernel
theorem k0_208 : mj_look (mj_prog 0) 208 = some (.iinc 1 1, 3, 0, 0) := by decide +kernel
theorem k0_211 : mj_look (mj_prog 0) 211 = some (.goto (-25), 3, 186, 0) := by decide +kernel
theorem k0_214 : mj_look (mj_prog 0) 214 = some (.iconst 0, 1, 0, 0) := by decide +kernel
theorem k0_215 : mj_look (mj_prog 0) 215 = some (.istore_n 1, 1, 0, 0) := by decide +kernel
theorem k0_216 : mj_look (mj_prog 0) 216 = some (.iload_n 1, 1, 0, 0) := by decide +kernel
theorem k0_217 : mj_look (mj_prog 0) 217 = some (.aload_n 0, 1, 0, 0) := by decide +kernel
theorem k0_218 : mj_look (mj_prog 0) 218 = some (.getfield 65, 3, 11, 7) := by decide +kernel
theorem k0_221 : mj_look (mj_prog 0) 221 = some (.arraylength, 1, 0, 0) := by decide +kernel
theorem k0_222 : mj_look (mj_prog 0) 222 = some (.if_icmp .ge 22, 3, 244, 0) := by decide +kernel
theorem k0_225 : mj_look (mj_prog 0) 225 = some (.aload_n 0, 1, 0, 0) := by decide +kernel
theorem k0_226 : mj_look (mj_prog 0) 226 = some (.getfield 65, 3, 11, 7) := by decide +kernel
theorem k0_229 : mj_look (mj_prog 0) 229 = some (.iload_n 1, 1, 0, 0) := by decide +kernel
theorem k0_230 : mj_look (mj_prog 0) 230 = some (.new 63, 3, 7, 0) := by decide +kernel
theorem k0_233 : mj_look (mj_prog 0) 233 = some (.dup, 1, 0, 0) := by decide +kernel
theorem k0_234 : mj_look (mj_prog 0) 234 = some (.invokespecial 84, 3, 10, 0) := by decide +kernel
theorem k0_237 : mj_look (mj_prog 0) 237 = some (.aastore, 1, 0, 0) := by decide +kernel
theorem k0_238 : mj_look (mj_prog 0) 238 = some (.iinc 1 1, 3, 0, 0) := by decide +kernel
theorem k0_241 : mj_look (mj_prog 0) 241 = some (.goto (-25), 3, 216, 0) := by decide +kernel
theorem k0_244 : mj_look (mj_prog 0) 244 = some (.iconst 0, 1, 0, 0) := by decide +kernel
theorem k0_245 : mj_look (mj_prog 0) 245 = some (.istore_n 1, 1, 0, 0) := by decide +kernel
theorem k0_246 : mj_look (mj_prog 0) 246 = some (.iload_n 1, 1, 0, 0) := by decide +kernel
theorem k0_247 : mj_look (mj_prog 0) 247 = some (.aload_n 0, 1, 0, 0) := by decide +kernel
theorem k0_248 : mj_look (mj_prog 0) 248 = some (.getfield 71, 3, 11, 8) := by decide +kernel
theorem k0_251 : mj_look (mj_prog 0) 251 = some (.arraylength, 1, 0, 0) := by decide +kernel
theorem k0_252 : mj_look (mj_prog 0) 252 = some (.if_icmp .ge 22, 3, 274, 0) := by decide +kernel
theorem k0_255 : mj_look (mj_prog 0) 255 = some (.aload_n 0, 1, 0, 0) := by decide +kernel
theorem k0_256 : mj_look (mj_prog 0) 256 = some (.getfield 71, 3, 11, 8) := by decide +kernel
theorem k0_259 : mj_look (mj_prog 0) 259 = some (.iload_n 1, 1, 0, 0) := by decide +kernel
theorem k0_260 : mj_look (mj_prog 0) 260 = some (.new 69, 3, 8, 0) := by decide +kernel
theorem k0_263 : mj_look (mj_prog 0) 263 = some (.dup, 1, 0, 0) := by decide +kernel
theorem k0_264 : mj_look (mj_prog 0) 264 = some (.invokespecial 85, 3, 11, 0) := by decide +kernel
theorem k0_267 : mj_look (mj_prog 0) 267 = some (.aastore, 1, 0, 0) := by decide +kernel
theorem k0_268 : mj_look (mj_prog 0) 268 = some (.iinc 1 1, 3, 0, 0) := by decide +kernel
theorem k0_271 : mj_look (mj_prog 0) 271 = some (.goto (-25), 3, 246, 0) := by decide +kernel
theorem k0_274 : mj_look (mj_prog 0) 274 = some (.return_, 1, 0, 0) := by decide +kernel
theorem mx_1 : (mj_m 1).2.2.1 = 1 := by decide +kernel
theorem rt_1 : (mj_m 1).2.2.2.1 = none := by decide +kernel
theorem dp_1 : mj_disp 1 1 = some 1 := by decide +kernel
theorem pq_1 : mj_prog 1 = mj_p1 := rfl
theorem k1_0 : mj_look (mj_prog 1) 0 = some (.aload_n 0, 1, 0, 0) := by decide +kernel
theorem k1_1 : mj_look (mj_prog 1) 1 = some (.invokespecial 1, 3, 3000, 0) := by decide +kernel
theorem k1_4 : mj_look (mj_prog 1) 4 = some (.return_, 1, 0, 0) := by decide +kernel
theorem mx_2 : (mj_m 2).2.2.1 = 1 := by decide +kernel
theorem rt_2 : (mj_m 2).2.2.2.1 = none := by decide +kernel
theorem dp_2 : mj_disp 2 3 = some 2 := by decide +kernel
theorem pq_2 : mj_prog 2 = mj_p2 := rfl
theorem k2_0 : mj_look (mj_prog 2) 0 = some (.aload_n 0, 1, 0, 0) := by decide +kernel
theorem k2_1 : mj_look (mj_prog 2) 1 = some (.invokespecial 3, 3, 1, 0) := by decide +kernel
theorem k2_4 : mj_look (mj_prog 2) 4 = some (.return_, 1, 0, 0) := by decide +kernel
theorem mx_3 : (mj_m 3).2.2.1 = 1 := by decide +kernel
theorem rt_3 : (mj_m 3).2.2.2.1 = none := by decide +kernel
theorem dp_3 : mj_disp 3 5 = some 3 := by decide +kernel
theorem pq_3 : mj_prog 3 = mj_p3 := rfl
theorem k3_0 : mj_look (mj_prog 3) 0 = some (.aload_n 0, 1, 0, 0) := by decide +kernel
theorem k3_1 : mj_look (mj_prog 3) 1 = some (.invokespecial 1, 3, 1, 0) := by decide +kernel
theorem k3_4 : mj_look (mj_prog 3) 4 = some (.return_, 1, 0, 0) := by decide +kernel
theorem mx_4 : (mj_m 4).2.2.1 = 1 := by decide +kernel
theorem rt_4 : (mj_m 4).2.2.2.1 = none := by decide +kernel
theorem dp_4 : mj_disp 4 4 = some 4 := by decide +kernel
theorem pq_4 : mj_prog 4 = mj_p4 := rfl
theorem k4_0 : mj_look (mj_prog 4) 0 = some (.aload_n 0, 1, 0, 0) := by decide +kernel
theorem k4_1 : mj_look (mj_prog 4) 1 = some (.invokespecial 1, 3, 2, 0) := by decide +kernel
theorem k4_4 : mj_look (mj_prog 4) 4 = some (.return_, 1, 0, 0) := by decide +kernel
theorem mx_5 : (mj_m 5).2.2.1 = 1 := by decide +kernel
theorem rt_5 : (mj_m 5).2.2.2.1 = none := by decide +kernel
theorem dp_5 : mj_disp 5 0 = some 5 := by decide +kernel
theorem pq_5 : mj_prog 5 = mj_p5 := rfl
theorem k5_0 : mj_look (mj_prog 5) 0 = some (.aload_n 0, 1, 0, 0) := by decide +kernel
theorem k5_1 : mj_look (mj_prog 5) 1 = some (.invokespecial 1, 3, 3, 0) := by decide +kernel
theorem k5_4 : mj_look (mj_prog 5) 4 = some (.return_, 1, 0, 0) := by decide +kernel
theorem mx_6 : (mj_m 6).2.2.1 = 1 := by decide +kernel
theorem rt_6 : (mj_m 6).2.2.2.1 = none := by decide +kernel
theorem dp_6 : mj_disp 6 2 = some 6 := by decide +kernel
theorem pq_6 : mj_prog 6 = mj_p6 := rfl
theorem k6_0 : mj_look (mj_prog 6) 0 = some (.aload_n 0, 1, 0, 0) := by decide +kernel
theorem k6_1 : mj_look (mj_prog 6) 1 = some (.invokespecial 1, 3, 1, 0) := by decide +kernel
theorem k6_4 : mj_look (mj_prog 6) 4 = some (.return_, 1, 0, 0) := by decide +kernel
theorem mx_7 : (mj_m 7).2.2.1 = 1 := by decide +kernel
theorem rt_7 : (mj_m 7).2.2.2.1 = none := by decide +kernel
theorem dp_7 : mj_disp 7 9 = some 7 := by decide +kernel
theorem pq_7 : mj_prog 7 = mj_p7 := rfl
theorem k7_0 : mj_look (mj_prog 7) 0 = some (.aload_n 0, 1, 0, 0) := by decide +kernel
theorem k7_1 : mj_look (mj_prog 7) 1 = some (.invokespecial 3, 3, 3000, 0) := by decide +kernel
theorem k7_4 : mj_look (mj_prog 7) 4 = some (.aload_n 0, 1, 0, 0) := by decide +kernel
theorem k7_5 : mj_look (mj_prog 7) 5 = some (.bipush 96, 2, 0, 0) := by decide +kernel
theorem k7_7 : mj_look (mj_prog 7) 7 = some (.newarray .int, 2, 20, 0) := by decide +kernel
theorem k7_9 : mj_look (mj_prog 7) 9 = some (.putfield 9, 3, 9, 0) := by decide +kernel
theorem k7_12 : mj_look (mj_prog 7) 12 = some (.aload_n 0, 1, 0, 0) := by decide +kernel
theorem k7_13 : mj_look (mj_prog 7) 13 = some (.iconst 0, 1, 0, 0) := by decide +kernel
theorem k7_14 : mj_look (mj_prog 7) 14 = some (.putfield 15, 3, 9, 1) := by decide +kernel
theorem k7_17 : mj_look (mj_prog 7) 17 = some (.aload_n 0, 1, 0, 0) := by decide +kernel
theorem k7_18 : mj_look (mj_prog 7) 18 = some (.iconst 0, 1, 0, 0) := by decide +kernel
theorem k7_19 : mj_look (mj_prog 7) 19 = some (.putfield 19, 3, 9, 2) := by decide +kernel
theorem k7_22 : mj_look (mj_prog 7) 22 = some (.aload_n 0, 1, 0, 0) := by decide +kernel
theorem k7_23 : mj_look (mj_prog 7) 23 = some (.iconst 0, 1, 0, 0) := by decide +kernel
theorem k7_24 : mj_look (mj_prog 7) 24 = some (.putfield 22, 3, 9, 3) := by decide +kernel
theorem k7_27 : mj_look (mj_prog 7) 27 = some (.aload_n 0, 1, 0, 0) := by decide +kernel
theorem k7_28 : mj_look (mj_prog 7) 28 = some (.iconst 0, 1, 0, 0) := by decide +kernel
theorem k7_29 : mj_look (mj_prog 7) 29 = some (.putfield 25, 3, 9, 4) := by decide +kernel
theorem k7_32 : mj_look (mj_prog 7) 32 = some (.return_, 1, 0, 0) := by decide +kernel
theorem mx_8 : (mj_m 8).2.2.1 = 3 := by decide +kernel
theorem rt_8 : (mj_m 8).2.2.2.1 = none := by decide +kernel
theorem dp_8 : mj_disp 8 6 = some 8 := by decide +kernel
theorem pq_8 : mj_prog 8 = mj_p8 := rfl
theorem k8_0 : mj_look (mj_prog 8) 0 = some (.aload_n 0, 1, 0, 0) := by decide +kernel
theorem k8_1 : mj_look (mj_prog 8) 1 = some (.invokespecial 3, 3, 3000, 0) := by decide +kernel
theorem k8_4 : mj_look (mj_prog 8) 4 = some (.aload_n 0, 1, 0, 0) := by decide +kernel
theorem k8_5 : mj_look (mj_prog 8) 5 = some (.iconst 4, 1, 0, 0) := by decide +kernel
theorem k8_6 : mj_look (mj_prog 8) 6 = some (.bipush 12, 2, 0, 0) := by decide +kernel
theorem k8_8 : mj_look (mj_prog 8) 8 = some (.multianewarray 9 2, 4, 27, 20) := by decide +kernel
theorem k8_12 : mj_look (mj_prog 8) 12 = some (.putfield 11, 3, 6, 2) := by decide +kernel
theorem k8_15 : mj_look (mj_prog 8) 15 = some (.aload_n 0, 1, 0, 0) := by decide +kernel
theorem k8_16 : mj_look (mj_prog 8) 16 = some (.bipush 7, 2, 0, 0) := by decide +kernel
theorem k8_18 : mj_look (mj_prog 8) 18 = some (.bipush 8, 2, 0, 0) := by decide +kernel
theorem k8_20 : mj_look (mj_prog 8) 20 = some (.multianewarray 9 2, 4, 27, 20) := by decide +kernel
theorem k8_24 : mj_look (mj_prog 8) 24 = some (.putfield 16, 3, 6, 3) := by decide +kernel
theorem k8_27 : mj_look (mj_prog 8) 27 = some (.aload_n 0, 1, 0, 0) := by decide +kernel
theorem k8_28 : mj_look (mj_prog 8) 28 = some (.iconst 3, 1, 0, 0) := by decide +kernel
theorem k8_29 : mj_look (mj_prog 8) 29 = some (.newarray .int, 2, 20, 0) := by decide +kernel
theorem k8_31 : mj_look (mj_prog 8) 31 = some (.dup, 1, 0, 0) := by decide +kernel
theorem k8_32 : mj_look (mj_prog 8) 32 = some (.iconst 0, 1, 0, 0) := by decide +kernel
theorem k8_33 : mj_look (mj_prog 8) 33 = some (.iconst (-1), 1, 0, 0) := by decide +kernel
theorem k8_34 : mj_look (mj_prog 8) 34 = some (.iastore, 1, 0, 0) := by decide +kernel
theorem k8_35 : mj_look (mj_prog 8) 35 = some (.dup, 1, 0, 0) := by decide +kernel
theorem k8_36 : mj_look (mj_prog 8) 36 = some (.iconst 1, 1, 0, 0) := by decide +kernel
theorem k8_37 : mj_look (mj_prog 8) 37 = some (.iconst (-1), 1, 0, 0) := by decide +kernel
theorem k8_38 : mj_look (mj_prog 8) 38 = some (.iastore, 1, 0, 0) := by decide +kernel
theorem k8_39 : mj_look (mj_prog 8) 39 = some (.dup, 1, 0, 0) := by decide +kernel
theorem k8_40 : mj_look (mj_prog 8) 40 = some (.iconst 2, 1, 0, 0) := by decide +kernel
theorem k8_41 : mj_look (mj_prog 8) 41 = some (.iconst (-1), 1, 0, 0) := by decide +kernel
theorem k8_42 : mj_look (mj_prog 8) 42 = some (.iastore, 1, 0, 0) := by decide +kernel
theorem k8_43 : mj_look (mj_prog 8) 43 = some (.putfield 19, 3, 6, 4) := by decide +kernel
theorem k8_46 : mj_look (mj_prog 8) 46 = some (.aload_n 0, 1, 0, 0) := by decide +kernel
theorem k8_47 : mj_look (mj_prog 8) 47 = some (.iconst 0, 1, 0, 0) := by decide +kernel
theorem k8_48 : mj_look (mj_prog 8) 48 = some (.putfield 23, 3, 6, 5) := by decide +kernel
theorem k8_51 : mj_look (mj_prog 8) 51 = some (.aload_n 0, 1, 0, 0) := by decide +kernel
theorem k8_52 : mj_look (mj_prog 8) 52 = some (.bipush 10, 2, 0, 0) := by decide +kernel
theorem k8_54 : mj_look (mj_prog 8) 54 = some (.putfield 27, 3, 6, 6) := by decide +kernel
theorem k8_57 : mj_look (mj_prog 8) 57 = some (.aload_n 0, 1, 0, 0) := by decide +kernel
theorem k8_58 : mj_look (mj_prog 8) 58 = some (.iconst 0, 1, 0, 0) := by decide +kernel
theorem k8_59 : mj_look (mj_prog 8) 59 = some (.putfield 30, 3, 6, 7) := by decide +kernel
theorem k8_62 : mj_look (mj_prog 8) 62 = some (.aload_n 0, 1, 0, 0) := by decide +kernel
theorem k8_63 : mj_look (mj_prog 8) 63 = some (.iconst 1, 1, 0, 0) := by decide +kernel
theorem k8_64 : mj_look (mj_prog 8) 64 = some (.putfield 33, 3, 6, 8) := by decide +kernel
theorem k8_67 : mj_look (mj_prog 8) 67 = some (.aload_n 0, 1, 0, 0) := by decide +kernel
theorem k8_68 : mj_look (mj_prog 8) 68 = some (.iconst 0, 1, 0, 0) := by decide +kernel
theorem k8_69 : mj_look (mj_prog 8) 69 = some (.putfield 36, 3, 6, 9) := by decide +kernel
theorem k8_72 : mj_look (mj_prog 8) 72 = some (.aload_n 0, 1, 0, 0) := by decide +kernel
theorem k8_73 : mj_look (mj_prog 8) 73 = some (.aload_n 1, 1, 0, 0) := by decide +kernel
theorem k8_74 : mj_look (mj_prog 8) 74 = some (.putfield 39, 3, 6, 0) := by decide +kernel
theorem k8_77 : mj_look (mj_prog 8) 77 = some (.aload_n 0, 1, 0, 0) := by decide +kernel
theorem k8_78 : mj_look (mj_prog 8) 78 = some (.aload_n 2, 1, 0, 0) := by decide +kernel
theorem k8_79 : mj_look (mj_prog 8) 79 = some (.putfield 43, 3, 6, 1) := by decide +kernel
theorem k8_82 : mj_look (mj_prog 8) 82 = some (.return_, 1, 0, 0) := by decide +kernel
theorem mx_9 : (mj_m 9).2.2.1 = 1 := by decide +kernel
theorem rt_9 : (mj_m 9).2.2.2.1 = none := by decide +kernel
theorem dp_9 : mj_disp 9 10 = some 9 := by decide +kernel
theorem pq_9 : mj_prog 9 = mj_p9 := rfl
theorem k9_0 : mj_look (mj_prog 9) 0 = some (.aload_n 0, 1, 0, 0) := by decide +kernel
theorem k9_1 : mj_look (mj_prog 9) 1 = some (.invokespecial 3, 3, 3000, 0) := by decide +kernel
theorem k9_4 : mj_look (mj_prog 9) 4 = some (.aload_n 0, 1, 0, 0) := by decide +kernel
theorem k9_5 : mj_look (mj_prog 9) 5 = some (.bipush 96, 2, 0, 0) := by decide +kernel
theorem k9_7 : mj_look (mj_prog 9) 7 = some (.newarray .int, 2, 20, 0) := by decide +kernel
theorem k9_9 : mj_look (mj_prog 9) 9 = some (.putfield 9, 3, 10, 0) := by decide +kernel
theorem k9_12 : mj_look (mj_prog 9) 12 = some (.aload_n 0, 1, 0, 0) := by decide +kernel
theorem k9_13 : mj_look (mj_prog 9) 13 = some (.bipush 96, 2, 0, 0) := by decide +kernel
theorem k9_15 : mj_look (mj_prog 9) 15 = some (.newarray .int, 2, 20, 0) := by decide +kernel
theorem k9_17 : mj_look (mj_prog 9) 17 = some (.putfield 15, 3, 10, 1) := by decide +kernel
theorem k9_20 : mj_look (mj_prog 9) 20 = some (.aload_n 0, 1, 0, 0) := by decide +kernel
theorem k9_21 : mj_look (mj_prog 9) 21 = some (.iconst 0, 1, 0, 0) := by decide +kernel
theorem k9_22 : mj_look (mj_prog 9) 22 = some (.putfield 18, 3, 10, 2) := by decide +kernel
theorem k9_25 : mj_look (mj_prog 9) 25 = some (.aload_n 0, 1, 0, 0) := by decide +kernel
theorem k9_26 : mj_look (mj_prog 9) 26 = some (.iconst 0, 1, 0, 0) := by decide +kernel
theorem k9_27 : mj_look (mj_prog 9) 27 = some (.putfield 22, 3, 10, 3) := by decide +kernel
theorem k9_30 : mj_look (mj_prog 9) 30 = some (.aload_n 0, 1, 0, 0) := by decide +kernel
theorem k9_31 : mj_look (mj_prog 9) 31 = some (.iconst 0, 1, 0, 0) := by decide +kernel
theorem k9_32 : mj_look (mj_prog 9) 32 = some (.putfield 25, 3, 10, 4) := by decide +kernel
theorem k9_35 : mj_look (mj_prog 9) 35 = some (.return_, 1, 0, 0) := by decide +kernel
theorem mx_10 : (mj_m 10).2.2.1 = 1 := by decide +kernel
theorem rt_10 : (mj_m 10).2.2.2.1 = none := by decide +kernel
theorem dp_10 : mj_disp 10 7 = some 10 := by decide +kernel
theorem pq_10 : mj_prog 10 = mj_p10 := rfl
theorem k10_0 : mj_look (mj_prog 10) 0 = some (.aload_n 0, 1, 0, 0) := by decide +kernel
theorem k10_1 : mj_look (mj_prog 10) 1 = some (.invokespecial 3, 3, 3000, 0) := by decide +kernel
theorem k10_4 : mj_look (mj_prog 10) 4 = some (.aload_n 0, 1, 0, 0) := by decide +kernel
theorem k10_5 : mj_look (mj_prog 10) 5 = some (.bipush 24, 2, 0, 0) := by decide +kernel
theorem k10_7 : mj_look (mj_prog 10) 7 = some (.newarray .int, 2, 20, 0) := by decide +kernel
theorem k10_9 : mj_look (mj_prog 10) 9 = some (.putfield 9, 3, 7, 0) := by decide +kernel
theorem k10_12 : mj_look (mj_prog 10) 12 = some (.aload_n 0, 1, 0, 0) := by decide +kernel
theorem k10_13 : mj_look (mj_prog 10) 13 = some (.iconst (-1), 1, 0, 0) := by decide +kernel
theorem k10_14 : mj_look (mj_prog 10) 14 = some (.putfield 15, 3, 7, 1) := by decide +kernel
theorem k10_17 : mj_look (mj_prog 10) 17 = some (.aload_n 0, 1, 0, 0) := by decide +kernel
theorem k10_18 : mj_look (mj_prog 10) 18 = some (.iconst 0, 1, 0, 0) := by decide +kernel
theorem k10_19 : mj_look (mj_prog 10) 19 = some (.putfield 19, 3, 7, 2) := by decide +kernel
theorem k10_22 : mj_look (mj_prog 10) 22 = some (.return_, 1, 0, 0) := by decide +kernel
theorem mx_11 : (mj_m 11).2.2.1 = 1 := by decide +kernel
theorem rt_11 : (mj_m 11).2.2.2.1 = none := by decide +kernel
theorem dp_11 : mj_disp 11 8 = some 11 := by decide +kernel
theorem pq_11 : mj_prog 11 = mj_p11 := rfl
theorem k11_0 : mj_look (mj_prog 11) 0 = some (.aload_n 0, 1, 0, 0) := by decide +kernel
theorem k11_1 : mj_look (mj_prog 11) 1 = some (.invokespecial 3, 3, 3000, 0) := by decide +kernel
theorem k11_4 : mj_look (mj_prog 11) 4 = some (.aload_n 0, 1, 0, 0) := by decide +kernel
theorem k11_5 : mj_look (mj_prog 11) 5 = some (.iconst 0, 1, 0, 0) := by decide +kernel
theorem k11_6 : mj_look (mj_prog 11) 6 = some (.putfield 9, 3, 8, 0) := by decide +kernel
theorem k11_9 : mj_look (mj_prog 11) 9 = some (.aload_n 0, 1, 0, 0) := by decide +kernel
theorem k11_10 : mj_look (mj_prog 11) 10 = some (.aconst_null, 1, 0, 0) := by decide +kernel
theorem k11_11 : mj_look (mj_prog 11) 11 = some (.putfield 15, 3, 8, 1) := by decide +kernel
theorem k11_14 : mj_look (mj_prog 11) 14 = some (.aload_n 0, 1, 0, 0) := by decide +kernel
theorem k11_15 : mj_look (mj_prog 11) 15 = some (.iconst 0, 1, 0, 0) := by decide +kernel
theorem k11_16 : mj_look (mj_prog 11) 16 = some (.putfield 19, 3, 8, 2) := by decide +kernel
theorem k11_19 : mj_look (mj_prog 11) 19 = some (.aload_n 0, 1, 0, 0) := by decide +kernel
theorem k11_20 : mj_look (mj_prog 11) 20 = some (.new 22, 3, 7, 0) := by decide +kernel
theorem k11_23 : mj_look (mj_prog 11) 23 = some (.dup, 1, 0, 0) := by decide +kernel
theorem k11_24 : mj_look (mj_prog 11) 24 = some (.invokespecial 24, 3, 10, 0) := by decide +kernel
theorem k11_27 : mj_look (mj_prog 11) 27 = some (.putfield 25, 3, 8, 3) := by decide +kernel
theorem k11_30 : mj_look (mj_prog 11) 30 = some (.aload_n 0, 1, 0, 0) := by decide +kernel
theorem k11_31 : mj_look (mj_prog 11) 31 = some (.iconst 0, 1, 0, 0) := by decide +kernel
theorem k11_32 : mj_look (mj_prog 11) 32 = some (.putfield 29, 3, 8, 4) := by decide +kernel
theorem k11_35 : mj_look (mj_prog 11) 35 = some (.return_, 1, 0, 0) := by decide +kernel
theorem mx_12 : (mj_m 12).2.2.1 = 4 := by decide +kernel
theorem rt_12 : (mj_m 12).2.2.2.1 = (some FieldType.int) := by decide +kernel
theorem dp_12 : mj_disp 12 11 = some 12 := by decide +kernel
theorem pq_12 : mj_prog 12 = mj_p12 := rfl
theorem k12_0 : mj_look (mj_prog 12) 0 = some (.iload_n 1, 1, 0, 0) := by decide +kernel
theorem k12_1 : mj_look (mj_prog 12) 1 = some (.invokestatic 86, 3, 13, 1) := by decide +kernel
theorem k12_4 : mj_look (mj_prog 12) 4 = some (.ifCond .eq 17, 3, 21, 0) := by decide +kernel
theorem k12_7 : mj_look (mj_prog 12) 7 = some (.iload_n 2, 1, 0, 0) := by decide +kernel
theorem k12_8 : mj_look (mj_prog 12) 8 = some (.invokestatic 90, 3, 14, 1) := by decide +kernel
theorem k12_11 : mj_look (mj_prog 12) 11 = some (.ifCond .eq 10, 3, 21, 0) := by decide +kernel
theorem k12_14 : mj_look (mj_prog 12) 14 = some (.iload_n 3, 1, 0, 0) := by decide +kernel
theorem k12_15 : mj_look (mj_prog 12) 15 = some (.invokestatic 93, 3, 15, 1) := by decide +kernel
theorem k12_18 : mj_look (mj_prog 12) 18 = some (.ifCond .ne 6, 3, 24, 0) := by decide +kernel
theorem k12_21 : mj_look (mj_prog 12) 21 = some (.ldc 96, 2, 3294967295, 0) := by decide +kernel
theorem k12_23 : mj_look (mj_prog 12) 23 = some (.ireturn, 1, 0, 0) := by decide +kernel
theorem k12_24 : mj_look (mj_prog 12) 24 = some (.aload_n 0, 1, 0, 0) := by decide +kernel
theorem k12_25 : mj_look (mj_prog 12) 25 = some (.getfield 49, 3, 11, 3) := by decide +kernel
theorem k12_28 : mj_look (mj_prog 12) 28 = some (.getfield 97, 3, 6, 5) := by decide +kernel
theorem k12_31 : mj_look (mj_prog 12) 31 = some (.bipush 8, 2, 0, 0) := by decide +kernel
theorem k12_33 : mj_look (mj_prog 12) 33 = some (.if_icmp .lt 8, 3, 41, 0) := by decide +kernel
theorem k12_36 : mj_look (mj_prog 12) 36 = some (.ldc 100, 2, 3294967293, 0) := by decide +kernel
theorem k12_38 : mj_look (mj_prog 12) 38 = some (.goto 13, 3, 51, 0) := by decide +kernel
theorem k12_41 : mj_look (mj_prog 12) 41 = some (.aload_n 0, 1, 0, 0) := by decide +kernel
theorem k12_42 : mj_look (mj_prog 12) 42 = some (.getfield 49, 3, 11, 3) := by decide +kernel
theorem k12_45 : mj_look (mj_prog 12) 45 = some (.iload_n 1, 1, 0, 0) := by decide +kernel
theorem k12_46 : mj_look (mj_prog 12) 46 = some (.iload_n 2, 1, 0, 0) := by decide +kernel
theorem k12_47 : mj_look (mj_prog 12) 47 = some (.iload_n 3, 1, 0, 0) := by decide +kernel
theorem k12_48 : mj_look (mj_prog 12) 48 = some (.invokevirtual 101, 3, 17, 3) := by decide +kernel
theorem k12_51 : mj_look (mj_prog 12) 51 = some (.ireturn, 1, 0, 0) := by decide +kernel
theorem mx_13 : (mj_m 13).2.2.1 = 1 := by decide +kernel
theorem rt_13 : (mj_m 13).2.2.2.1 = (some FieldType.boolean) := by decide +kernel
theorem dp_13 : mj_disp 13 11 = some 13 := by decide +kernel
theorem pq_13 : mj_prog 13 = mj_p13 := rfl
theorem k13_0 : mj_look (mj_prog 13) 0 = some (.iload_n 0, 1, 0, 0) := by decide +kernel
theorem k13_1 : mj_look (mj_prog 13) 1 = some (.ifCond .lt 13, 3, 14, 0) := by decide +kernel
theorem k13_4 : mj_look (mj_prog 13) 4 = some (.iload_n 0, 1, 0, 0) := by decide +kernel
theorem k13_5 : mj_look (mj_prog 13) 5 = some (.bipush 6, 2, 0, 0) := by decide +kernel
theorem k13_7 : mj_look (mj_prog 13) 7 = some (.if_icmp .ge 7, 3, 14, 0) := by decide +kernel
theorem k13_10 : mj_look (mj_prog 13) 10 = some (.iconst 1, 1, 0, 0) := by decide +kernel
theorem k13_11 : mj_look (mj_prog 13) 11 = some (.goto 4, 3, 15, 0) := by decide +kernel
theorem k13_14 : mj_look (mj_prog 13) 14 = some (.iconst 0, 1, 0, 0) := by decide +kernel
theorem k13_15 : mj_look (mj_prog 13) 15 = some (.ireturn, 1, 0, 0) := by decide +kernel
theorem mx_14 : (mj_m 14).2.2.1 = 1 := by decide +kernel
theorem rt_14 : (mj_m 14).2.2.2.1 = (some FieldType.boolean) := by decide +kernel
theorem dp_14 : mj_disp 14 11 = some 14 := by decide +kernel
theorem pq_14 : mj_prog 14 = mj_p14 := rfl
theorem k14_0 : mj_look (mj_prog 14) 0 = some (.iload_n 0, 1, 0, 0) := by decide +kernel
theorem k14_1 : mj_look (mj_prog 14) 1 = some (.ifCond .lt 14, 3, 15, 0) := by decide +kernel
theorem k14_4 : mj_look (mj_prog 14) 4 = some (.iload_n 0, 1, 0, 0) := by decide +kernel
theorem k14_5 : mj_look (mj_prog 14) 5 = some (.sipush 240, 3, 0, 0) := by decide +kernel
theorem k14_8 : mj_look (mj_prog 14) 8 = some (.if_icmp .ge 7, 3, 15, 0) := by decide +kernel
theorem k14_11 : mj_look (mj_prog 14) 11 = some (.iconst 1, 1, 0, 0) := by decide +kernel
theorem k14_12 : mj_look (mj_prog 14) 12 = some (.goto 4, 3, 16, 0) := by decide +kernel
theorem k14_15 : mj_look (mj_prog 14) 15 = some (.iconst 0, 1, 0, 0) := by decide +kernel
theorem k14_16 : mj_look (mj_prog 14) 16 = some (.ireturn, 1, 0, 0) := by decide +kernel
theorem mx_15 : (mj_m 15).2.2.1 = 1 := by decide +kernel
theorem rt_15 : (mj_m 15).2.2.2.1 = (some FieldType.boolean) := by decide +kernel
theorem dp_15 : mj_disp 15 11 = some 15 := by decide +kernel
theorem pq_15 : mj_prog 15 = mj_p15 := rfl
theorem k15_0 : mj_look (mj_prog 15) 0 = some (.iload_n 0, 1, 0, 0) := by decide +kernel
theorem k15_1 : mj_look (mj_prog 15) 1 = some (.iconst 1, 1, 0, 0) := by decide +kernel
theorem k15_2 : mj_look (mj_prog 15) 2 = some (.bipush 99, 2, 0, 0) := by decide +kernel
theorem k15_4 : mj_look (mj_prog 15) 4 = some (.invokestatic 141, 3, 16, 3) := by decide +kernel
theorem k15_7 : mj_look (mj_prog 15) 7 = some (.ireturn, 1, 0, 0) := by decide +kernel
theorem mx_16 : (mj_m 16).2.2.1 = 3 := by decide +kernel
theorem rt_16 : (mj_m 16).2.2.2.1 = (some FieldType.boolean) := by decide +kernel
theorem dp_16 : mj_disp 16 11 = some 16 := by decide +kernel
theorem pq_16 : mj_prog 16 = mj_p16 := rfl
theorem k16_0 : mj_look (mj_prog 16) 0 = some (.iload_n 0, 1, 0, 0) := by decide +kernel
theorem k16_1 : mj_look (mj_prog 16) 1 = some (.iload_n 1, 1, 0, 0) := by decide +kernel
theorem k16_2 : mj_look (mj_prog 16) 2 = some (.if_icmp .lt 12, 3, 14, 0) := by decide +kernel
theorem k16_5 : mj_look (mj_prog 16) 5 = some (.iload_n 0, 1, 0, 0) := by decide +kernel
theorem k16_6 : mj_look (mj_prog 16) 6 = some (.iload_n 2, 1, 0, 0) := by decide +kernel
theorem k16_7 : mj_look (mj_prog 16) 7 = some (.if_icmp .gt 7, 3, 14, 0) := by decide +kernel
theorem k16_10 : mj_look (mj_prog 16) 10 = some (.iconst 1, 1, 0, 0) := by decide +kernel
theorem k16_11 : mj_look (mj_prog 16) 11 = some (.goto 4, 3, 15, 0) := by decide +kernel
theorem k16_14 : mj_look (mj_prog 16) 14 = some (.iconst 0, 1, 0, 0) := by decide +kernel
theorem k16_15 : mj_look (mj_prog 16) 15 = some (.ireturn, 1, 0, 0) := by decide +kernel
theorem mx_17 : (mj_m 17).2.2.1 = 6 := by decide +kernel
theorem rt_17 : (mj_m 17).2.2.2.1 = (some FieldType.int) := by decide +kernel
theorem dp_17 : mj_disp 17 6 = some 17 := by decide +kernel
theorem pq_17 : mj_prog 17 = mj_p17 := rfl
theorem k17_0 : mj_look (mj_prog 17) 0 = some (.aload_n 0, 1, 0, 0) := by decide +kernel
theorem k17_1 : mj_look (mj_prog 17) 1 = some (.getfield 23, 3, 6, 5) := by decide +kernel
theorem k17_4 : mj_look (mj_prog 17) 4 = some (.istore 4, 2, 0, 0) := by decide +kernel
theorem k17_6 : mj_look (mj_prog 17) 6 = some (.iconst 0, 1, 0, 0) := by decide +kernel
theorem k17_7 : mj_look (mj_prog 17) 7 = some (.istore 5, 2, 0, 0) := by decide +kernel
theorem k17_9 : mj_look (mj_prog 17) 9 = some (.iload 5, 2, 0, 0) := by decide +kernel
theorem k17_11 : mj_look (mj_prog 17) 11 = some (.bipush 7, 2, 0, 0) := by decide +kernel
theorem k17_13 : mj_look (mj_prog 17) 13 = some (.if_icmp .ge 20, 3, 33, 0) := by decide +kernel
theorem k17_16 : mj_look (mj_prog 17) 16 = some (.aload_n 0, 1, 0, 0) := by decide +kernel
theorem k17_17 : mj_look (mj_prog 17) 17 = some (.getfield 16, 3, 6, 3) := by decide +kernel
theorem k17_20 : mj_look (mj_prog 17) 20 = some (.iload 5, 2, 0, 0) := by decide +kernel
theorem k17_22 : mj_look (mj_prog 17) 22 = some (.aaload, 1, 0, 0) := by decide +kernel
theorem k17_23 : mj_look (mj_prog 17) 23 = some (.iload 4, 2, 0, 0) := by decide +kernel
theorem k17_25 : mj_look (mj_prog 17) 25 = some (.iconst 0, 1, 0, 0) := by decide +kernel
theorem k17_26 : mj_look (mj_prog 17) 26 = some (.iastore, 1, 0, 0) := by decide +kernel
theorem k17_27 : mj_look (mj_prog 17) 27 = some (.iinc 5 1, 3, 0, 0) := by decide +kernel
theorem k17_30 : mj_look (mj_prog 17) 30 = some (.goto (-21), 3, 9, 0) := by decide +kernel
theorem k17_33 : mj_look (mj_prog 17) 33 = some (.aload_n 0, 1, 0, 0) := by decide +kernel
theorem k17_34 : mj_look (mj_prog 17) 34 = some (.getfield 16, 3, 6, 3) := by decide +kernel
theorem k17_37 : mj_look (mj_prog 17) 37 = some (.iconst 0, 1, 0, 0) := by decide +kernel
theorem k17_38 : mj_look (mj_prog 17) 38 = some (.aaload, 1, 0, 0) := by decide +kernel
theorem k17_39 : mj_look (mj_prog 17) 39 = some (.iload 4, 2, 0, 0) := by decide +kernel
theorem k17_41 : mj_look (mj_prog 17) 41 = some (.iload_n 1, 1, 0, 0) := by decide +kernel
theorem k17_42 : mj_look (mj_prog 17) 42 = some (.iastore, 1, 0, 0) := by decide +kernel
theorem k17_43 : mj_look (mj_prog 17) 43 = some (.aload_n 0, 1, 0, 0) := by decide +kernel
theorem k17_44 : mj_look (mj_prog 17) 44 = some (.getfield 16, 3, 6, 3) := by decide +kernel
theorem k17_47 : mj_look (mj_prog 17) 47 = some (.iconst 1, 1, 0, 0) := by decide +kernel
theorem k17_48 : mj_look (mj_prog 17) 48 = some (.aaload, 1, 0, 0) := by decide +kernel
theorem k17_49 : mj_look (mj_prog 17) 49 = some (.iload 4, 2, 0, 0) := by decide +kernel
theorem k17_51 : mj_look (mj_prog 17) 51 = some (.iload_n 2, 1, 0, 0) := by decide +kernel
theorem k17_52 : mj_look (mj_prog 17) 52 = some (.iastore, 1, 0, 0) := by decide +kernel
theorem k17_53 : mj_look (mj_prog 17) 53 = some (.aload_n 0, 1, 0, 0) := by decide +kernel
theorem k17_54 : mj_look (mj_prog 17) 54 = some (.getfield 16, 3, 6, 3) := by decide +kernel
theorem k17_57 : mj_look (mj_prog 17) 57 = some (.iconst 2, 1, 0, 0) := by decide +kernel
theorem k17_58 : mj_look (mj_prog 17) 58 = some (.aaload, 1, 0, 0) := by decide +kernel
theorem k17_59 : mj_look (mj_prog 17) 59 = some (.iload 4, 2, 0, 0) := by decide +kernel
theorem k17_61 : mj_look (mj_prog 17) 61 = some (.iload_n 3, 1, 0, 0) := by decide +kernel
theorem k17_62 : mj_look (mj_prog 17) 62 = some (.iastore, 1, 0, 0) := by decide +kernel
theorem k17_63 : mj_look (mj_prog 17) 63 = some (.aload_n 0, 1, 0, 0) := by decide +kernel
theorem k17_64 : mj_look (mj_prog 17) 64 = some (.dup, 1, 0, 0) := by decide +kernel
theorem k17_65 : mj_look (mj_prog 17) 65 = some (.getfield 23, 3, 6, 5) := by decide +kernel
theorem k17_68 : mj_look (mj_prog 17) 68 = some (.iconst 1, 1, 0, 0) := by decide +kernel
theorem k17_69 : mj_look (mj_prog 17) 69 = some (.iadd, 1, 0, 0) := by decide +kernel
theorem k17_70 : mj_look (mj_prog 17) 70 = some (.putfield 23, 3, 6, 5) := by decide +kernel
theorem k17_73 : mj_look (mj_prog 17) 73 = some (.iload 4, 2, 0, 0) := by decide +kernel
theorem k17_75 : mj_look (mj_prog 17) 75 = some (.ireturn, 1, 0, 0) := by decide +kernel
theorem mx_18 : (mj_m 18).2.2.1 = 3 := by decide +kernel
theorem rt_18 : (mj_m 18).2.2.2.1 = (some FieldType.int) := by decide +kernel
theorem dp_18 : mj_disp 18 11 = some 18 := by decide +kernel
theorem pq_18 : mj_prog 18 = mj_p18 := rfl
theorem k18_0 : mj_look (mj_prog 18) 0 = some (.aload_n 0, 1, 0, 0) := by decide +kernel
theorem k18_1 : mj_look (mj_prog 18) 1 = some (.iload_n 1, 1, 0, 0) := by decide +kernel
theorem k18_2 : mj_look (mj_prog 18) 2 = some (.invokevirtual 105, 3, 19, 1) := by decide +kernel
theorem k18_5 : mj_look (mj_prog 18) 5 = some (.ifCond .ne 6, 3, 11, 0) := by decide +kernel
theorem k18_8 : mj_look (mj_prog 18) 8 = some (.ldc 96, 2, 3294967295, 0) := by decide +kernel
theorem k18_10 : mj_look (mj_prog 18) 10 = some (.ireturn, 1, 0, 0) := by decide +kernel
theorem k18_11 : mj_look (mj_prog 18) 11 = some (.iload_n 2, 1, 0, 0) := by decide +kernel
theorem k18_12 : mj_look (mj_prog 18) 12 = some (.ifCond .lt 21, 3, 33, 0) := by decide +kernel
theorem k18_15 : mj_look (mj_prog 18) 15 = some (.iload_n 2, 1, 0, 0) := by decide +kernel
theorem k18_16 : mj_look (mj_prog 18) 16 = some (.bipush 7, 2, 0, 0) := by decide +kernel
theorem k18_18 : mj_look (mj_prog 18) 18 = some (.if_icmp .ge 15, 3, 33, 0) := by decide +kernel
theorem k18_21 : mj_look (mj_prog 18) 21 = some (.aload_n 0, 1, 0, 0) := by decide +kernel
theorem k18_22 : mj_look (mj_prog 18) 22 = some (.getfield 49, 3, 11, 3) := by decide +kernel
theorem k18_25 : mj_look (mj_prog 18) 25 = some (.getfield 108, 3, 6, 3) := by decide +kernel
theorem k18_28 : mj_look (mj_prog 18) 28 = some (.iload_n 2, 1, 0, 0) := by decide +kernel
theorem k18_29 : mj_look (mj_prog 18) 29 = some (.aaload, 1, 0, 0) := by decide +kernel
theorem k18_30 : mj_look (mj_prog 18) 30 = some (.iload_n 1, 1, 0, 0) := by decide +kernel
theorem k18_31 : mj_look (mj_prog 18) 31 = some (.iaload, 1, 0, 0) := by decide +kernel
theorem k18_32 : mj_look (mj_prog 18) 32 = some (.ireturn, 1, 0, 0) := by decide +kernel
theorem k18_33 : mj_look (mj_prog 18) 33 = some (.iload_n 2, 1, 0, 0) := by decide +kernel
theorem k18_34 : mj_look (mj_prog 18) 34 = some (.tableswitch 91 7 10 #[30, 47, 56, 68], 30, 0, 0) := by decide +kernel
theorem k18_64 : mj_look (mj_prog 18) 64 = some (.aload_n 0, 1, 0, 0) := by decide +kernel
theorem k18_65 : mj_look (mj_prog 18) 65 = some (.getfield 49, 3, 11, 3) := by decide +kernel
theorem k18_68 : mj_look (mj_prog 18) 68 = some (.iload_n 1, 1, 0, 0) := by decide +kernel
theorem k18_69 : mj_look (mj_prog 18) 69 = some (.aload_n 0, 1, 0, 0) := by decide +kernel
theorem k18_70 : mj_look (mj_prog 18) 70 = some (.getfield 49, 3, 11, 3) := by decide +kernel
theorem k18_73 : mj_look (mj_prog 18) 73 = some (.iload_n 1, 1, 0, 0) := by decide +kernel
theorem k18_74 : mj_look (mj_prog 18) 74 = some (.invokevirtual 112, 3, 20, 1) := by decide +kernel
theorem k18_77 : mj_look (mj_prog 18) 77 = some (.invokevirtual 116, 3, 21, 2) := by decide +kernel
theorem k18_80 : mj_look (mj_prog 18) 80 = some (.ireturn, 1, 0, 0) := by decide +kernel
theorem k18_81 : mj_look (mj_prog 18) 81 = some (.aload_n 0, 1, 0, 0) := by decide +kernel
theorem k18_82 : mj_look (mj_prog 18) 82 = some (.getfield 49, 3, 11, 3) := by decide +kernel
theorem k18_85 : mj_look (mj_prog 18) 85 = some (.iload_n 1, 1, 0, 0) := by decide +kernel
theorem k18_86 : mj_look (mj_prog 18) 86 = some (.invokevirtual 120, 3, 32, 1) := by decide +kernel
theorem k18_89 : mj_look (mj_prog 18) 89 = some (.ireturn, 1, 0, 0) := by decide +kernel
theorem k18_90 : mj_look (mj_prog 18) 90 = some (.aload_n 0, 1, 0, 0) := by decide +kernel
theorem k18_91 : mj_look (mj_prog 18) 91 = some (.getfield 49, 3, 11, 3) := by decide +kernel
theorem k18_94 : mj_look (mj_prog 18) 94 = some (.iload_n 1, 1, 0, 0) := by decide +kernel
theorem k18_95 : mj_look (mj_prog 18) 95 = some (.invokevirtual 123, 3, 24, 1) := by decide +kernel
theorem k18_98 : mj_look (mj_prog 18) 98 = some (.invokevirtual 127, 3, 1002, 0) := by decide +kernel
theorem k18_101 : mj_look (mj_prog 18) 101 = some (.ireturn, 1, 0, 0) := by decide +kernel
theorem k18_102 : mj_look (mj_prog 18) 102 = some (.aload_n 0, 1, 0, 0) := by decide +kernel
theorem k18_103 : mj_look (mj_prog 18) 103 = some (.getfield 49, 3, 11, 3) := by decide +kernel
theorem k18_106 : mj_look (mj_prog 18) 106 = some (.iload_n 1, 1, 0, 0) := by decide +kernel
theorem k18_107 : mj_look (mj_prog 18) 107 = some (.invokevirtual 123, 3, 24, 1) := by decide +kernel
theorem k18_110 : mj_look (mj_prog 18) 110 = some (.aload_n 0, 1, 0, 0) := by decide +kernel
theorem k18_111 : mj_look (mj_prog 18) 111 = some (.getfield 49, 3, 11, 3) := by decide +kernel
theorem k18_114 : mj_look (mj_prog 18) 114 = some (.getfield 108, 3, 6, 3) := by decide +kernel
theorem k18_117 : mj_look (mj_prog 18) 117 = some (.iconst 2, 1, 0, 0) := by decide +kernel
theorem k18_118 : mj_look (mj_prog 18) 118 = some (.aaload, 1, 0, 0) := by decide +kernel
theorem k18_119 : mj_look (mj_prog 18) 119 = some (.iload_n 1, 1, 0, 0) := by decide +kernel
theorem k18_120 : mj_look (mj_prog 18) 120 = some (.iaload, 1, 0, 0) := by decide +kernel
theorem k18_121 : mj_look (mj_prog 18) 121 = some (.invokevirtual 131, 3, 1003, 1) := by decide +kernel
theorem k18_124 : mj_look (mj_prog 18) 124 = some (.ireturn, 1, 0, 0) := by decide +kernel
theorem k18_125 : mj_look (mj_prog 18) 125 = some (.ldc 96, 2, 3294967295, 0) := by decide +kernel
theorem k18_127 : mj_look (mj_prog 18) 127 = some (.ireturn, 1, 0, 0) := by decide +kernel
theorem mx_19 : (mj_m 19).2.2.1 = 2 := by decide +kernel
theorem rt_19 : (mj_m 19).2.2.2.1 = (some FieldType.boolean) := by decide +kernel
theorem dp_19 : mj_disp 19 11 = some 19 := by decide +kernel
theorem pq_19 : mj_prog 19 = mj_p19 := rfl
theorem k19_0 : mj_look (mj_prog 19) 0 = some (.iload_n 1, 1, 0, 0) := by decide +kernel
theorem k19_1 : mj_look (mj_prog 19) 1 = some (.ifCond .lt 18, 3, 19, 0) := by decide +kernel
theorem k19_4 : mj_look (mj_prog 19) 4 = some (.iload_n 1, 1, 0, 0) := by decide +kernel
theorem k19_5 : mj_look (mj_prog 19) 5 = some (.aload_n 0, 1, 0, 0) := by decide +kernel
theorem k19_6 : mj_look (mj_prog 19) 6 = some (.getfield 49, 3, 11, 3) := by decide +kernel
theorem k19_9 : mj_look (mj_prog 19) 9 = some (.getfield 97, 3, 6, 5) := by decide +kernel
theorem k19_12 : mj_look (mj_prog 19) 12 = some (.if_icmp .ge 7, 3, 19, 0) := by decide +kernel
theorem k19_15 : mj_look (mj_prog 19) 15 = some (.iconst 1, 1, 0, 0) := by decide +kernel
theorem k19_16 : mj_look (mj_prog 19) 16 = some (.goto 4, 3, 20, 0) := by decide +kernel
theorem k19_19 : mj_look (mj_prog 19) 19 = some (.iconst 0, 1, 0, 0) := by decide +kernel
theorem k19_20 : mj_look (mj_prog 19) 20 = some (.ireturn, 1, 0, 0) := by decide +kernel
theorem mx_20 : (mj_m 20).2.2.1 = 2 := by decide +kernel
theorem rt_20 : (mj_m 20).2.2.2.1 = (some FieldType.int) := by decide +kernel
theorem dp_20 : mj_disp 20 6 = some 20 := by decide +kernel
theorem pq_20 : mj_prog 20 = mj_p20 := rfl
theorem k20_0 : mj_look (mj_prog 20) 0 = some (.aload_n 0, 1, 0, 0) := by decide +kernel
theorem k20_1 : mj_look (mj_prog 20) 1 = some (.getfield 16, 3, 6, 3) := by decide +kernel
theorem k20_4 : mj_look (mj_prog 20) 4 = some (.iconst 1, 1, 0, 0) := by decide +kernel
theorem k20_5 : mj_look (mj_prog 20) 5 = some (.aaload, 1, 0, 0) := by decide +kernel
theorem k20_6 : mj_look (mj_prog 20) 6 = some (.iload_n 1, 1, 0, 0) := by decide +kernel
theorem k20_7 : mj_look (mj_prog 20) 7 = some (.iaload, 1, 0, 0) := by decide +kernel
theorem k20_8 : mj_look (mj_prog 20) 8 = some (.bipush 20, 2, 0, 0) := by decide +kernel
theorem k20_10 : mj_look (mj_prog 20) 10 = some (.idiv, 1, 0, 0) := by decide +kernel
theorem k20_11 : mj_look (mj_prog 20) 11 = some (.ireturn, 1, 0, 0) := by decide +kernel
theorem mx_21 : (mj_m 21).2.2.1 = 8 := by decide +kernel
theorem rt_21 : (mj_m 21).2.2.2.1 = (some FieldType.int) := by decide +kernel
theorem dp_21 : mj_disp 21 6 = some 21 := by decide +kernel
theorem pq_21 : mj_prog 21 = mj_p21 := rfl
theorem k21_0 : mj_look (mj_prog 21) 0 = some (.aload_n 0, 1, 0, 0) := by decide +kernel
theorem k21_1 : mj_look (mj_prog 21) 1 = some (.getfield 16, 3, 6, 3) := by decide +kernel
theorem k21_4 : mj_look (mj_prog 21) 4 = some (.iconst 2, 1, 0, 0) := by decide +kernel
theorem k21_5 : mj_look (mj_prog 21) 5 = some (.aaload, 1, 0, 0) := by decide +kernel
theorem k21_6 : mj_look (mj_prog 21) 6 = some (.iload_n 1, 1, 0, 0) := by decide +kernel
theorem k21_7 : mj_look (mj_prog 21) 7 = some (.iaload, 1, 0, 0) := by decide +kernel
theorem k21_8 : mj_look (mj_prog 21) 8 = some (.istore_n 3, 1, 0, 0) := by decide +kernel
theorem k21_9 : mj_look (mj_prog 21) 9 = some (.aload_n 0, 1, 0, 0) := by decide +kernel
theorem k21_10 : mj_look (mj_prog 21) 10 = some (.getfield 11, 3, 6, 2) := by decide +kernel
theorem k21_13 : mj_look (mj_prog 21) 13 = some (.iconst 0, 1, 0, 0) := by decide +kernel
theorem k21_14 : mj_look (mj_prog 21) 14 = some (.aaload, 1, 0, 0) := by decide +kernel
theorem k21_15 : mj_look (mj_prog 21) 15 = some (.iload_n 2, 1, 0, 0) := by decide +kernel
theorem k21_16 : mj_look (mj_prog 21) 16 = some (.iaload, 1, 0, 0) := by decide +kernel
theorem k21_17 : mj_look (mj_prog 21) 17 = some (.istore 4, 2, 0, 0) := by decide +kernel
theorem k21_19 : mj_look (mj_prog 21) 19 = some (.aload_n 0, 1, 0, 0) := by decide +kernel
theorem k21_20 : mj_look (mj_prog 21) 20 = some (.getfield 11, 3, 6, 2) := by decide +kernel
theorem k21_23 : mj_look (mj_prog 21) 23 = some (.iconst 1, 1, 0, 0) := by decide +kernel
theorem k21_24 : mj_look (mj_prog 21) 24 = some (.aaload, 1, 0, 0) := by decide +kernel
theorem k21_25 : mj_look (mj_prog 21) 25 = some (.iload_n 2, 1, 0, 0) := by decide +kernel
theorem k21_26 : mj_look (mj_prog 21) 26 = some (.iaload, 1, 0, 0) := by decide +kernel
theorem k21_27 : mj_look (mj_prog 21) 27 = some (.istore 5, 2, 0, 0) := by decide +kernel
theorem k21_29 : mj_look (mj_prog 21) 29 = some (.aload_n 0, 1, 0, 0) := by decide +kernel
theorem k21_30 : mj_look (mj_prog 21) 30 = some (.getfield 19, 3, 6, 4) := by decide +kernel
theorem k21_33 : mj_look (mj_prog 21) 33 = some (.iconst 0, 1, 0, 0) := by decide +kernel
theorem k21_34 : mj_look (mj_prog 21) 34 = some (.iaload, 1, 0, 0) := by decide +kernel
theorem k21_35 : mj_look (mj_prog 21) 35 = some (.istore 6, 2, 0, 0) := by decide +kernel
theorem k21_37 : mj_look (mj_prog 21) 37 = some (.iload 6, 2, 0, 0) := by decide +kernel
theorem k21_39 : mj_look (mj_prog 21) 39 = some (.ifCond .ge 19, 3, 58, 0) := by decide +kernel
theorem k21_42 : mj_look (mj_prog 21) 42 = some (.bipush 6, 2, 0, 0) := by decide +kernel
theorem k21_44 : mj_look (mj_prog 21) 44 = some (.iload_n 3, 1, 0, 0) := by decide +kernel
theorem k21_45 : mj_look (mj_prog 21) 45 = some (.bipush 20, 2, 0, 0) := by decide +kernel
theorem k21_47 : mj_look (mj_prog 21) 47 = some (.idiv, 1, 0, 0) := by decide +kernel
theorem k21_48 : mj_look (mj_prog 21) 48 = some (.iadd, 1, 0, 0) := by decide +kernel
theorem k21_49 : mj_look (mj_prog 21) 49 = some (.iload 4, 2, 0, 0) := by decide +kernel
theorem k21_51 : mj_look (mj_prog 21) 51 = some (.isub, 1, 0, 0) := by decide +kernel
theorem k21_52 : mj_look (mj_prog 21) 52 = some (.iload 5, 2, 0, 0) := by decide +kernel
theorem k21_54 : mj_look (mj_prog 21) 54 = some (.isub, 1, 0, 0) := by decide +kernel
theorem k21_55 : mj_look (mj_prog 21) 55 = some (.goto 18, 3, 73, 0) := by decide +kernel
theorem k21_58 : mj_look (mj_prog 21) 58 = some (.aload_n 0, 1, 0, 0) := by decide +kernel
theorem k21_59 : mj_look (mj_prog 21) 59 = some (.getfield 43, 3, 6, 1) := by decide +kernel
theorem k21_62 : mj_look (mj_prog 21) 62 = some (.iload 6, 2, 0, 0) := by decide +kernel
theorem k21_64 : mj_look (mj_prog 21) 64 = some (.aaload, 1, 0, 0) := by decide +kernel
theorem k21_65 : mj_look (mj_prog 21) 65 = some (.iload_n 3, 1, 0, 0) := by decide +kernel
theorem k21_66 : mj_look (mj_prog 21) 66 = some (.iload 4, 2, 0, 0) := by decide +kernel
theorem k21_68 : mj_look (mj_prog 21) 68 = some (.iload 5, 2, 0, 0) := by decide +kernel
theorem k21_70 : mj_look (mj_prog 21) 70 = some (.invokevirtual 91, 3, 22, 3) := by decide +kernel
theorem k21_73 : mj_look (mj_prog 21) 73 = some (.istore 7, 2, 0, 0) := by decide +kernel
theorem k21_75 : mj_look (mj_prog 21) 75 = some (.aload_n 0, 1, 0, 0) := by decide +kernel
theorem k21_76 : mj_look (mj_prog 21) 76 = some (.iload_n 1, 1, 0, 0) := by decide +kernel
theorem k21_77 : mj_look (mj_prog 21) 77 = some (.invokevirtual 81, 3, 24, 1) := by decide +kernel
theorem k21_80 : mj_look (mj_prog 21) 80 = some (.iload 7, 2, 0, 0) := by decide +kernel
theorem k21_82 : mj_look (mj_prog 21) 82 = some (.iconst 1, 1, 0, 0) := by decide +kernel
theorem k21_83 : mj_look (mj_prog 21) 83 = some (.bipush 20, 2, 0, 0) := by decide +kernel
theorem k21_85 : mj_look (mj_prog 21) 85 = some (.invokestatic 97, 3, 25, 3) := by decide +kernel
theorem k21_88 : mj_look (mj_prog 21) 88 = some (.iload 4, 2, 0, 0) := by decide +kernel
theorem k21_90 : mj_look (mj_prog 21) 90 = some (.iload 5, 2, 0, 0) := by decide +kernel
theorem k21_92 : mj_look (mj_prog 21) 92 = some (.invokevirtual 100, 3, 1001, 3) := by decide +kernel
theorem k21_95 : mj_look (mj_prog 21) 95 = some (.ireturn, 1, 0, 0) := by decide +kernel
theorem mx_22 : (mj_m 22).2.2.1 = 7 := by decide +kernel
theorem rt_22 : (mj_m 22).2.2.2.1 = (some FieldType.int) := by decide +kernel
theorem dp_22 : mj_disp 22 10 = some 22 := by decide +kernel
theorem pq_22 : mj_prog 22 = mj_p22 := rfl
theorem k22_0 : mj_look (mj_prog 22) 0 = some (.iconst 0, 1, 0, 0) := by decide +kernel
theorem k22_1 : mj_look (mj_prog 22) 1 = some (.istore 4, 2, 0, 0) := by decide +kernel
theorem k22_3 : mj_look (mj_prog 22) 3 = some (.iconst 0, 1, 0, 0) := by decide +kernel
theorem k22_4 : mj_look (mj_prog 22) 4 = some (.istore 5, 2, 0, 0) := by decide +kernel
theorem k22_6 : mj_look (mj_prog 22) 6 = some (.iload 5, 2, 0, 0) := by decide +kernel
theorem k22_8 : mj_look (mj_prog 22) 8 = some (.aload_n 0, 1, 0, 0) := by decide +kernel
theorem k22_9 : mj_look (mj_prog 22) 9 = some (.getfield 18, 3, 10, 2) := by decide +kernel
theorem k22_12 : mj_look (mj_prog 22) 12 = some (.if_icmp .ge 178, 3, 190, 0) := by decide +kernel
theorem k22_15 : mj_look (mj_prog 22) 15 = some (.aload_n 0, 1, 0, 0) := by decide +kernel
theorem k22_16 : mj_look (mj_prog 22) 16 = some (.getfield 9, 3, 10, 0) := by decide +kernel
theorem k22_19 : mj_look (mj_prog 22) 19 = some (.iload 5, 2, 0, 0) := by decide +kernel
theorem k22_21 : mj_look (mj_prog 22) 21 = some (.iaload, 1, 0, 0) := by decide +kernel
theorem k22_22 : mj_look (mj_prog 22) 22 = some (.istore 6, 2, 0, 0) := by decide +kernel
theorem k22_24 : mj_look (mj_prog 22) 24 = some (.iload 6, 2, 0, 0) := by decide +kernel
theorem k22_26 : mj_look (mj_prog 22) 26 = some (.sipush 10000, 3, 0, 0) := by decide +kernel
theorem k22_29 : mj_look (mj_prog 22) 29 = some (.if_icmp .lt 60, 3, 89, 0) := by decide +kernel
theorem k22_32 : mj_look (mj_prog 22) 32 = some (.iload 6, 2, 0, 0) := by decide +kernel
theorem k22_34 : mj_look (mj_prog 22) 34 = some (.sipush 10000, 3, 0, 0) := by decide +kernel
theorem k22_37 : mj_look (mj_prog 22) 37 = some (.isub, 1, 0, 0) := by decide +kernel
theorem k22_38 : mj_look (mj_prog 22) 38 = some (.bipush 33, 2, 0, 0) := by decide +kernel
theorem k22_40 : mj_look (mj_prog 22) 40 = some (.if_icmp .eq 49, 3, 89, 0) := by decide +kernel
theorem k22_43 : mj_look (mj_prog 22) 43 = some (.iload 4, 2, 0, 0) := by decide +kernel
theorem k22_45 : mj_look (mj_prog 22) 45 = some (.iconst 2, 1, 0, 0) := by decide +kernel
theorem k22_46 : mj_look (mj_prog 22) 46 = some (.if_icmp .lt 138, 3, 184, 0) := by decide +kernel
theorem k22_49 : mj_look (mj_prog 22) 49 = some (.iinc 4 (-1), 3, 0, 0) := by decide +kernel
theorem k22_52 : mj_look (mj_prog 22) 52 = some (.aload_n 0, 1, 0, 0) := by decide +kernel
theorem k22_53 : mj_look (mj_prog 22) 53 = some (.getfield 15, 3, 10, 1) := by decide +kernel
theorem k22_56 : mj_look (mj_prog 22) 56 = some (.iload 4, 2, 0, 0) := by decide +kernel
theorem k22_58 : mj_look (mj_prog 22) 58 = some (.iconst 1, 1, 0, 0) := by decide +kernel
theorem k22_59 : mj_look (mj_prog 22) 59 = some (.isub, 1, 0, 0) := by decide +kernel
theorem k22_60 : mj_look (mj_prog 22) 60 = some (.iload 6, 2, 0, 0) := by decide +kernel
theorem k22_62 : mj_look (mj_prog 22) 62 = some (.sipush 10000, 3, 0, 0) := by decide +kernel
theorem k22_65 : mj_look (mj_prog 22) 65 = some (.isub, 1, 0, 0) := by decide +kernel
theorem k22_66 : mj_look (mj_prog 22) 66 = some (.aload_n 0, 1, 0, 0) := by decide +kernel
theorem k22_67 : mj_look (mj_prog 22) 67 = some (.getfield 15, 3, 10, 1) := by decide +kernel
theorem k22_70 : mj_look (mj_prog 22) 70 = some (.iload 4, 2, 0, 0) := by decide +kernel
theorem k22_72 : mj_look (mj_prog 22) 72 = some (.iconst 1, 1, 0, 0) := by decide +kernel
theorem k22_73 : mj_look (mj_prog 22) 73 = some (.isub, 1, 0, 0) := by decide +kernel
theorem k22_74 : mj_look (mj_prog 22) 74 = some (.iaload, 1, 0, 0) := by decide +kernel
theorem k22_75 : mj_look (mj_prog 22) 75 = some (.aload_n 0, 1, 0, 0) := by decide +kernel
theorem k22_76 : mj_look (mj_prog 22) 76 = some (.getfield 15, 3, 10, 1) := by decide +kernel
theorem k22_79 : mj_look (mj_prog 22) 79 = some (.iload 4, 2, 0, 0) := by decide +kernel
theorem k22_81 : mj_look (mj_prog 22) 81 = some (.iaload, 1, 0, 0) := by decide +kernel
theorem k22_82 : mj_look (mj_prog 22) 82 = some (.invokestatic 32, 3, 23, 3) := by decide +kernel
theorem k22_85 : mj_look (mj_prog 22) 85 = some (.iastore, 1, 0, 0) := by decide +kernel
theorem k22_86 : mj_look (mj_prog 22) 86 = some (.goto 98, 3, 184, 0) := by decide +kernel
theorem k22_89 : mj_look (mj_prog 22) 89 = some (.iload 6, 2, 0, 0) := by decide +kernel
theorem k22_91 : mj_look (mj_prog 22) 91 = some (.sipush 10000, 3, 0, 0) := by decide +kernel
theorem k22_94 : mj_look (mj_prog 22) 94 = some (.if_icmp .lt 38, 3, 132, 0) := by decide +kernel
theorem k22_97 : mj_look (mj_prog 22) 97 = some (.iload 4, 2, 0, 0) := by decide +kernel
theorem k22_99 : mj_look (mj_prog 22) 99 = some (.iconst 1, 1, 0, 0) := by decide +kernel
theorem k22_100 : mj_look (mj_prog 22) 100 = some (.if_icmp .lt 84, 3, 184, 0) := by decide +kernel
theorem k22_103 : mj_look (mj_prog 22) 103 = some (.aload_n 0, 1, 0, 0) := by decide +kernel
theorem k22_104 : mj_look (mj_prog 22) 104 = some (.getfield 15, 3, 10, 1) := by decide +kernel
theorem k22_107 : mj_look (mj_prog 22) 107 = some (.iload 4, 2, 0, 0) := by decide +kernel
theorem k22_109 : mj_look (mj_prog 22) 109 = some (.iconst 1, 1, 0, 0) := by decide +kernel
theorem k22_110 : mj_look (mj_prog 22) 110 = some (.isub, 1, 0, 0) := by decide +kernel
theorem k22_111 : mj_look (mj_prog 22) 111 = some (.aload_n 0, 1, 0, 0) := by decide +kernel
theorem k22_112 : mj_look (mj_prog 22) 112 = some (.getfield 15, 3, 10, 1) := by decide +kernel
theorem k22_115 : mj_look (mj_prog 22) 115 = some (.iload 4, 2, 0, 0) := by decide +kernel
theorem k22_117 : mj_look (mj_prog 22) 117 = some (.iconst 1, 1, 0, 0) := by decide +kernel
theorem k22_118 : mj_look (mj_prog 22) 118 = some (.isub, 1, 0, 0) := by decide +kernel
theorem k22_119 : mj_look (mj_prog 22) 119 = some (.iaload, 1, 0, 0) := by decide +kernel
theorem k22_120 : mj_look (mj_prog 22) 120 = some (.ifCond .ne 7, 3, 127, 0) := by decide +kernel
theorem k22_123 : mj_look (mj_prog 22) 123 = some (.iconst 1, 1, 0, 0) := by decide +kernel
theorem k22_124 : mj_look (mj_prog 22) 124 = some (.goto 4, 3, 128, 0) := by decide +kernel
theorem k22_127 : mj_look (mj_prog 22) 127 = some (.iconst 0, 1, 0, 0) := by decide +kernel
theorem k22_128 : mj_look (mj_prog 22) 128 = some (.iastore, 1, 0, 0) := by decide +kernel
theorem k22_129 : mj_look (mj_prog 22) 129 = some (.goto 55, 3, 184, 0) := by decide +kernel
theorem k22_132 : mj_look (mj_prog 22) 132 = some (.iload 4, 2, 0, 0) := by decide +kernel
theorem k22_134 : mj_look (mj_prog 22) 134 = some (.aload_n 0, 1, 0, 0) := by decide +kernel
theorem k22_135 : mj_look (mj_prog 22) 135 = some (.getfield 15, 3, 10, 1) := by decide +kernel
theorem k22_138 : mj_look (mj_prog 22) 138 = some (.arraylength, 1, 0, 0) := by decide +kernel
theorem k22_139 : mj_look (mj_prog 22) 139 = some (.if_icmp .ge 45, 3, 184, 0) := by decide +kernel
theorem k22_142 : mj_look (mj_prog 22) 142 = some (.aload_n 0, 1, 0, 0) := by decide +kernel
theorem k22_143 : mj_look (mj_prog 22) 143 = some (.getfield 15, 3, 10, 1) := by decide +kernel
theorem k22_146 : mj_look (mj_prog 22) 146 = some (.iload 4, 2, 0, 0) := by decide +kernel
theorem k22_148 : mj_look (mj_prog 22) 148 = some (.iload 6, 2, 0, 0) := by decide +kernel
theorem k22_150 : mj_look (mj_prog 22) 150 = some (.ifCond .lt 8, 3, 158, 0) := by decide +kernel
theorem k22_153 : mj_look (mj_prog 22) 153 = some (.iload 6, 2, 0, 0) := by decide +kernel
theorem k22_155 : mj_look (mj_prog 22) 155 = some (.goto 25, 3, 180, 0) := by decide +kernel
theorem k22_158 : mj_look (mj_prog 22) 158 = some (.iload 6, 2, 0, 0) := by decide +kernel
theorem k22_160 : mj_look (mj_prog 22) 160 = some (.iconst (-1), 1, 0, 0) := by decide +kernel
theorem k22_161 : mj_look (mj_prog 22) 161 = some (.if_icmp .ne 7, 3, 168, 0) := by decide +kernel
theorem k22_164 : mj_look (mj_prog 22) 164 = some (.iload_n 1, 1, 0, 0) := by decide +kernel
theorem k22_165 : mj_look (mj_prog 22) 165 = some (.goto 15, 3, 180, 0) := by decide +kernel
theorem k22_168 : mj_look (mj_prog 22) 168 = some (.iload 6, 2, 0, 0) := by decide +kernel
theorem k22_170 : mj_look (mj_prog 22) 170 = some (.bipush (-2), 2, 0, 0) := by decide +kernel
theorem k22_172 : mj_look (mj_prog 22) 172 = some (.if_icmp .ne 7, 3, 179, 0) := by decide +kernel
theorem k22_175 : mj_look (mj_prog 22) 175 = some (.iload_n 2, 1, 0, 0) := by decide +kernel
theorem k22_176 : mj_look (mj_prog 22) 176 = some (.goto 4, 3, 180, 0) := by decide +kernel
theorem k22_179 : mj_look (mj_prog 22) 179 = some (.iload_n 3, 1, 0, 0) := by decide +kernel
theorem k22_180 : mj_look (mj_prog 22) 180 = some (.iastore, 1, 0, 0) := by decide +kernel
theorem k22_181 : mj_look (mj_prog 22) 181 = some (.iinc 4 1, 3, 0, 0) := by decide +kernel
theorem k22_184 : mj_look (mj_prog 22) 184 = some (.iinc 5 1, 3, 0, 0) := by decide +kernel
theorem k22_187 : mj_look (mj_prog 22) 187 = some (.goto (-181), 3, 6, 0) := by decide +kernel
theorem k22_190 : mj_look (mj_prog 22) 190 = some (.aload_n 0, 1, 0, 0) := by decide +kernel
theorem k22_191 : mj_look (mj_prog 22) 191 = some (.getfield 15, 3, 10, 1) := by decide +kernel
theorem k22_194 : mj_look (mj_prog 22) 194 = some (.iconst 0, 1, 0, 0) := by decide +kernel
theorem k22_195 : mj_look (mj_prog 22) 195 = some (.iaload, 1, 0, 0) := by decide +kernel
theorem k22_196 : mj_look (mj_prog 22) 196 = some (.ireturn, 1, 0, 0) := by decide +kernel
theorem mx_23 : (mj_m 23).2.2.1 = 3 := by decide +kernel
theorem rt_23 : (mj_m 23).2.2.2.1 = (some FieldType.int) := by decide +kernel
theorem dp_23 : mj_disp 23 10 = some 23 := by decide +kernel
theorem pq_23 : mj_prog 23 = mj_p23 := rfl
theorem k23_0 : mj_look (mj_prog 23) 0 = some (.iload_n 0, 1, 0, 0) := by decide +kernel
theorem k23_1 : mj_look (mj_prog 23) 1 = some (.lookupswitch 148 #[(38, 89), (42, 144), (43, 136), (45, 140), (60, 103), (61, 114), (62, 125), (124, 75)], 75, 0, 0) := by decide +kernel
theorem k23_76 : mj_look (mj_prog 23) 76 = some (.iload_n 1, 1, 0, 0) := by decide +kernel
theorem k23_77 : mj_look (mj_prog 23) 77 = some (.ifCond .ne 7, 3, 84, 0) := by decide +kernel
theorem k23_80 : mj_look (mj_prog 23) 80 = some (.iload_n 2, 1, 0, 0) := by decide +kernel
theorem k23_81 : mj_look (mj_prog 23) 81 = some (.ifCond .eq 7, 3, 88, 0) := by decide +kernel
theorem k23_84 : mj_look (mj_prog 23) 84 = some (.iconst 1, 1, 0, 0) := by decide +kernel
theorem k23_85 : mj_look (mj_prog 23) 85 = some (.goto 4, 3, 89, 0) := by decide +kernel
theorem k23_88 : mj_look (mj_prog 23) 88 = some (.iconst 0, 1, 0, 0) := by decide +kernel
theorem k23_89 : mj_look (mj_prog 23) 89 = some (.ireturn, 1, 0, 0) := by decide +kernel
theorem k23_90 : mj_look (mj_prog 23) 90 = some (.iload_n 1, 1, 0, 0) := by decide +kernel
theorem k23_91 : mj_look (mj_prog 23) 91 = some (.ifCond .eq 11, 3, 102, 0) := by decide +kernel
theorem k23_94 : mj_look (mj_prog 23) 94 = some (.iload_n 2, 1, 0, 0) := by decide +kernel
theorem k23_95 : mj_look (mj_prog 23) 95 = some (.ifCond .eq 7, 3, 102, 0) := by decide +kernel
theorem k23_98 : mj_look (mj_prog 23) 98 = some (.iconst 1, 1, 0, 0) := by decide +kernel
theorem k23_99 : mj_look (mj_prog 23) 99 = some (.goto 4, 3, 103, 0) := by decide +kernel
theorem k23_102 : mj_look (mj_prog 23) 102 = some (.iconst 0, 1, 0, 0) := by decide +kernel
theorem k23_103 : mj_look (mj_prog 23) 103 = some (.ireturn, 1, 0, 0) := by decide +kernel
theorem k23_104 : mj_look (mj_prog 23) 104 = some (.iload_n 1, 1, 0, 0) := by decide +kernel
theorem k23_105 : mj_look (mj_prog 23) 105 = some (.iload_n 2, 1, 0, 0) := by decide +kernel
theorem k23_106 : mj_look (mj_prog 23) 106 = some (.if_icmp .ge 7, 3, 113, 0) := by decide +kernel
theorem k23_109 : mj_look (mj_prog 23) 109 = some (.iconst 1, 1, 0, 0) := by decide +kernel
theorem k23_110 : mj_look (mj_prog 23) 110 = some (.goto 4, 3, 114, 0) := by decide +kernel
theorem k23_113 : mj_look (mj_prog 23) 113 = some (.iconst 0, 1, 0, 0) := by decide +kernel
theorem k23_114 : mj_look (mj_prog 23) 114 = some (.ireturn, 1, 0, 0) := by decide +kernel
theorem k23_115 : mj_look (mj_prog 23) 115 = some (.iload_n 1, 1, 0, 0) := by decide +kernel
theorem k23_116 : mj_look (mj_prog 23) 116 = some (.iload_n 2, 1, 0, 0) := by decide +kernel
theorem k23_117 : mj_look (mj_prog 23) 117 = some (.if_icmp .ne 7, 3, 124, 0) := by decide +kernel
theorem k23_120 : mj_look (mj_prog 23) 120 = some (.iconst 1, 1, 0, 0) := by decide +kernel
theorem k23_121 : mj_look (mj_prog 23) 121 = some (.goto 4, 3, 125, 0) := by decide +kernel
theorem k23_124 : mj_look (mj_prog 23) 124 = some (.iconst 0, 1, 0, 0) := by decide +kernel
theorem k23_125 : mj_look (mj_prog 23) 125 = some (.ireturn, 1, 0, 0) := by decide +kernel
theorem k23_126 : mj_look (mj_prog 23) 126 = some (.iload_n 1, 1, 0, 0) := by decide +kernel
theorem k23_127 : mj_look (mj_prog 23) 127 = some (.iload_n 2, 1, 0, 0) := by decide +kernel
theorem k23_128 : mj_look (mj_prog 23) 128 = some (.if_icmp .le 7, 3, 135, 0) := by decide +kernel
theorem k23_131 : mj_look (mj_prog 23) 131 = some (.iconst 1, 1, 0, 0) := by decide +kernel
theorem k23_132 : mj_look (mj_prog 23) 132 = some (.goto 4, 3, 136, 0) := by decide +kernel
theorem k23_135 : mj_look (mj_prog 23) 135 = some (.iconst 0, 1, 0, 0) := by decide +kernel
theorem k23_136 : mj_look (mj_prog 23) 136 = some (.ireturn, 1, 0, 0) := by decide +kernel
theorem k23_137 : mj_look (mj_prog 23) 137 = some (.iload_n 1, 1, 0, 0) := by decide +kernel
theorem k23_138 : mj_look (mj_prog 23) 138 = some (.iload_n 2, 1, 0, 0) := by decide +kernel
theorem k23_139 : mj_look (mj_prog 23) 139 = some (.iadd, 1, 0, 0) := by decide +kernel
theorem k23_140 : mj_look (mj_prog 23) 140 = some (.ireturn, 1, 0, 0) := by decide +kernel
theorem k23_141 : mj_look (mj_prog 23) 141 = some (.iload_n 1, 1, 0, 0) := by decide +kernel
theorem k23_142 : mj_look (mj_prog 23) 142 = some (.iload_n 2, 1, 0, 0) := by decide +kernel
theorem k23_143 : mj_look (mj_prog 23) 143 = some (.isub, 1, 0, 0) := by decide +kernel
theorem k23_144 : mj_look (mj_prog 23) 144 = some (.ireturn, 1, 0, 0) := by decide +kernel
theorem k23_145 : mj_look (mj_prog 23) 145 = some (.iload_n 1, 1, 0, 0) := by decide +kernel
theorem k23_146 : mj_look (mj_prog 23) 146 = some (.iload_n 2, 1, 0, 0) := by decide +kernel
theorem k23_147 : mj_look (mj_prog 23) 147 = some (.imul, 1, 0, 0) := by decide +kernel
theorem k23_148 : mj_look (mj_prog 23) 148 = some (.ireturn, 1, 0, 0) := by decide +kernel
theorem k23_149 : mj_look (mj_prog 23) 149 = some (.iload_n 2, 1, 0, 0) := by decide +kernel
theorem k23_150 : mj_look (mj_prog 23) 150 = some (.ifCond .ne 7, 3, 157, 0) := by decide +kernel
theorem k23_153 : mj_look (mj_prog 23) 153 = some (.iconst 0, 1, 0, 0) := by decide +kernel
theorem k23_154 : mj_look (mj_prog 23) 154 = some (.goto 6, 3, 160, 0) := by decide +kernel
theorem k23_157 : mj_look (mj_prog 23) 157 = some (.iload_n 1, 1, 0, 0) := by decide +kernel
theorem k23_158 : mj_look (mj_prog 23) 158 = some (.iload_n 2, 1, 0, 0) := by decide +kernel
theorem k23_159 : mj_look (mj_prog 23) 159 = some (.idiv, 1, 0, 0) := by decide +kernel
theorem k23_160 : mj_look (mj_prog 23) 160 = some (.ireturn, 1, 0, 0) := by decide +kernel
theorem mx_24 : (mj_m 24).2.2.1 = 2 := by decide +kernel
theorem rt_24 : (mj_m 24).2.2.2.1 = (some (FieldType.object "GhostTrain$CarKind")) := by decide +kernel
theorem dp_24 : mj_disp 24 6 = some 24 := by decide +kernel
theorem pq_24 : mj_prog 24 = mj_p24 := rfl
theorem k24_0 : mj_look (mj_prog 24) 0 = some (.aload_n 0, 1, 0, 0) := by decide +kernel
theorem k24_1 : mj_look (mj_prog 24) 1 = some (.getfield 39, 3, 6, 0) := by decide +kernel
theorem k24_4 : mj_look (mj_prog 24) 4 = some (.aload_n 0, 1, 0, 0) := by decide +kernel
theorem k24_5 : mj_look (mj_prog 24) 5 = some (.getfield 16, 3, 6, 3) := by decide +kernel
theorem k24_8 : mj_look (mj_prog 24) 8 = some (.iconst 0, 1, 0, 0) := by decide +kernel
theorem k24_9 : mj_look (mj_prog 24) 9 = some (.aaload, 1, 0, 0) := by decide +kernel
theorem k24_10 : mj_look (mj_prog 24) 10 = some (.iload_n 1, 1, 0, 0) := by decide +kernel
theorem k24_11 : mj_look (mj_prog 24) 11 = some (.iaload, 1, 0, 0) := by decide +kernel
theorem k24_12 : mj_look (mj_prog 24) 12 = some (.aaload, 1, 0, 0) := by decide +kernel
theorem k24_13 : mj_look (mj_prog 24) 13 = some (.areturn, 1, 0, 0) := by decide +kernel
theorem mx_25 : (mj_m 25).2.2.1 = 3 := by decide +kernel
theorem rt_25 : (mj_m 25).2.2.2.1 = (some FieldType.int) := by decide +kernel
theorem dp_25 : mj_disp 25 11 = some 25 := by decide +kernel
theorem pq_25 : mj_prog 25 = mj_p25 := rfl
theorem k25_0 : mj_look (mj_prog 25) 0 = some (.iload_n 1, 1, 0, 0) := by decide +kernel
theorem k25_1 : mj_look (mj_prog 25) 1 = some (.iload_n 2, 1, 0, 0) := by decide +kernel
theorem k25_2 : mj_look (mj_prog 25) 2 = some (.iload_n 0, 1, 0, 0) := by decide +kernel
theorem k25_3 : mj_look (mj_prog 25) 3 = some (.invokestatic 151, 3, 3006, 2) := by decide +kernel
theorem k25_6 : mj_look (mj_prog 25) 6 = some (.invokestatic 298, 3, 3005, 2) := by decide +kernel
theorem k25_9 : mj_look (mj_prog 25) 9 = some (.ireturn, 1, 0, 0) := by decide +kernel
theorem mx_26 : (mj_m 26).2.2.1 = 4 := by decide +kernel
theorem rt_26 : (mj_m 26).2.2.2.1 = (some FieldType.int) := by decide +kernel
theorem dp_26 : mj_disp 26 0 = some 26 := by decide +kernel
theorem pq_26 : mj_prog 26 = mj_p26 := rfl
theorem k26_0 : mj_look (mj_prog 26) 0 = some (.iload_n 3, 1, 0, 0) := by decide +kernel
theorem k26_1 : mj_look (mj_prog 26) 1 = some (.iconst 5, 1, 0, 0) := by decide +kernel
theorem k26_2 : mj_look (mj_prog 26) 2 = some (.if_icmp .lt 7, 3, 9, 0) := by decide +kernel
theorem k26_5 : mj_look (mj_prog 26) 5 = some (.iconst 1, 1, 0, 0) := by decide +kernel
theorem k26_6 : mj_look (mj_prog 26) 6 = some (.goto 10, 3, 16, 0) := by decide +kernel
theorem k26_9 : mj_look (mj_prog 26) 9 = some (.aload_n 0, 1, 0, 0) := by decide +kernel
theorem k26_10 : mj_look (mj_prog 26) 10 = some (.iload_n 1, 1, 0, 0) := by decide +kernel
theorem k26_11 : mj_look (mj_prog 26) 11 = some (.iload_n 2, 1, 0, 0) := by decide +kernel
theorem k26_12 : mj_look (mj_prog 26) 12 = some (.iload_n 3, 1, 0, 0) := by decide +kernel
theorem k26_13 : mj_look (mj_prog 26) 13 = some (.invokespecial 11, 3, 27, 3) := by decide +kernel
theorem k26_16 : mj_look (mj_prog 26) 16 = some (.ireturn, 1, 0, 0) := by decide +kernel
theorem mx_27 : (mj_m 27).2.2.1 = 4 := by decide +kernel
theorem rt_27 : (mj_m 27).2.2.2.1 = (some FieldType.int) := by decide +kernel
theorem dp_27 : mj_disp 27 5 = some 27 := by decide +kernel
theorem pq_27 : mj_prog 27 = mj_p27 := rfl
theorem k27_0 : mj_look (mj_prog 27) 0 = some (.iconst 1, 1, 0, 0) := by decide +kernel
theorem k27_1 : mj_look (mj_prog 27) 1 = some (.iload_n 1, 1, 0, 0) := by decide +kernel
theorem k27_2 : mj_look (mj_prog 27) 2 = some (.iconst 2, 1, 0, 0) := by decide +kernel
theorem k27_3 : mj_look (mj_prog 27) 3 = some (.idiv, 1, 0, 0) := by decide +kernel
theorem k27_4 : mj_look (mj_prog 27) 4 = some (.invokestatic 11, 3, 3005, 2) := by decide +kernel
theorem k27_7 : mj_look (mj_prog 27) 7 = some (.ireturn, 1, 0, 0) := by decide +kernel
theorem mx_28 : (mj_m 28).2.2.1 = 4 := by decide +kernel
theorem rt_28 : (mj_m 28).2.2.2.1 = (some FieldType.int) := by decide +kernel
theorem dp_28 : mj_disp 28 2 = some 28 := by decide +kernel
theorem pq_28 : mj_prog 28 = mj_p28 := rfl
theorem k28_0 : mj_look (mj_prog 28) 0 = some (.bipush 7, 2, 0, 0) := by decide +kernel
theorem k28_2 : mj_look (mj_prog 28) 2 = some (.ireturn, 1, 0, 0) := by decide +kernel
theorem mx_29 : (mj_m 29).2.2.1 = 4 := by decide +kernel
theorem rt_29 : (mj_m 29).2.2.2.1 = (some FieldType.int) := by decide +kernel
theorem dp_29 : mj_disp 29 3 = some 29 := by decide +kernel
theorem pq_29 : mj_prog 29 = mj_p29 := rfl
theorem k29_0 : mj_look (mj_prog 29) 0 = some (.iload_n 2, 1, 0, 0) := by decide +kernel
theorem k29_1 : mj_look (mj_prog 29) 1 = some (.ifCond .ge 14, 3, 15, 0) := by decide +kernel
theorem k29_4 : mj_look (mj_prog 29) 4 = some (.bipush 20, 2, 0, 0) := by decide +kernel
theorem k29_6 : mj_look (mj_prog 29) 6 = some (.iload_n 1, 1, 0, 0) := by decide +kernel
theorem k29_7 : mj_look (mj_prog 29) 7 = some (.iconst 2, 1, 0, 0) := by decide +kernel
theorem k29_8 : mj_look (mj_prog 29) 8 = some (.iadd, 1, 0, 0) := by decide +kernel
theorem k29_9 : mj_look (mj_prog 29) 9 = some (.invokestatic 13, 3, 3006, 2) := by decide +kernel
theorem k29_12 : mj_look (mj_prog 29) 12 = some (.goto 4, 3, 16, 0) := by decide +kernel
theorem k29_15 : mj_look (mj_prog 29) 15 = some (.iload_n 1, 1, 0, 0) := by decide +kernel
theorem k29_16 : mj_look (mj_prog 29) 16 = some (.ireturn, 1, 0, 0) := by decide +kernel
theorem mx_30 : (mj_m 30).2.2.1 = 5 := by decide +kernel
theorem rt_30 : (mj_m 30).2.2.2.1 = (some FieldType.int) := by decide +kernel
theorem dp_30 : mj_disp 30 4 = some 30 := by decide +kernel
theorem pq_30 : mj_prog 30 = mj_p30 := rfl
theorem k30_0 : mj_look (mj_prog 30) 0 = some (.aload_n 0, 1, 0, 0) := by decide +kernel
theorem k30_1 : mj_look (mj_prog 30) 1 = some (.iload_n 1, 1, 0, 0) := by decide +kernel
theorem k30_2 : mj_look (mj_prog 30) 2 = some (.iload_n 2, 1, 0, 0) := by decide +kernel
theorem k30_3 : mj_look (mj_prog 30) 3 = some (.iload_n 3, 1, 0, 0) := by decide +kernel
theorem k30_4 : mj_look (mj_prog 30) 4 = some (.invokespecial 11, 3, 29, 3) := by decide +kernel
theorem k30_7 : mj_look (mj_prog 30) 7 = some (.istore 4, 2, 0, 0) := by decide +kernel
theorem k30_9 : mj_look (mj_prog 30) 9 = some (.iload_n 2, 1, 0, 0) := by decide +kernel
theorem k30_10 : mj_look (mj_prog 30) 10 = some (.ifCond .le 14, 3, 24, 0) := by decide +kernel
theorem k30_13 : mj_look (mj_prog 30) 13 = some (.iconst 1, 1, 0, 0) := by decide +kernel
theorem k30_14 : mj_look (mj_prog 30) 14 = some (.iload 4, 2, 0, 0) := by decide +kernel
theorem k30_16 : mj_look (mj_prog 30) 16 = some (.iconst 1, 1, 0, 0) := by decide +kernel
theorem k30_17 : mj_look (mj_prog 30) 17 = some (.isub, 1, 0, 0) := by decide +kernel
theorem k30_18 : mj_look (mj_prog 30) 18 = some (.invokestatic 15, 3, 3005, 2) := by decide +kernel
theorem k30_21 : mj_look (mj_prog 30) 21 = some (.goto 5, 3, 26, 0) := by decide +kernel
theorem k30_24 : mj_look (mj_prog 30) 24 = some (.iload 4, 2, 0, 0) := by decide +kernel
theorem k30_26 : mj_look (mj_prog 30) 26 = some (.ireturn, 1, 0, 0) := by decide +kernel
theorem mx_31 : (mj_m 31).2.2.1 = 4 := by decide +kernel
theorem rt_31 : (mj_m 31).2.2.2.1 = (some FieldType.int) := by decide +kernel
theorem dp_31 : mj_disp 31 1 = some 31 := by decide +kernel
theorem pq_31 : mj_prog 31 = mj_p31 := rfl
theorem k31_0 : mj_look (mj_prog 31) 0 = some (.iload_n 1, 1, 0, 0) := by decide +kernel
theorem k31_1 : mj_look (mj_prog 31) 1 = some (.ireturn, 1, 0, 0) := by decide +kernel
theorem mx_32 : (mj_m 32).2.2.1 = 5 := by decide +kernel
theorem rt_32 : (mj_m 32).2.2.2.1 = (some FieldType.int) := by decide +kernel
theorem dp_32 : mj_disp 32 6 = some 32 := by decide +kernel
theorem pq_32 : mj_prog 32 = mj_p32 := rfl
theorem k32_0 : mj_look (mj_prog 32) 0 = some (.aload_n 0, 1, 0, 0) := by decide +kernel
theorem k32_1 : mj_look (mj_prog 32) 1 = some (.getfield 23, 3, 6, 5) := by decide +kernel
theorem k32_4 : mj_look (mj_prog 32) 4 = some (.iconst 2, 1, 0, 0) := by decide +kernel
theorem k32_5 : mj_look (mj_prog 32) 5 = some (.if_icmp .ge 7, 3, 12, 0) := by decide +kernel
theorem k32_8 : mj_look (mj_prog 32) 8 = some (.sipush 240, 3, 0, 0) := by decide +kernel
theorem k32_11 : mj_look (mj_prog 32) 11 = some (.ireturn, 1, 0, 0) := by decide +kernel
theorem k32_12 : mj_look (mj_prog 32) 12 = some (.sipush 240, 3, 0, 0) := by decide +kernel
theorem k32_15 : mj_look (mj_prog 32) 15 = some (.istore_n 2, 1, 0, 0) := by decide +kernel
theorem k32_16 : mj_look (mj_prog 32) 16 = some (.iconst 0, 1, 0, 0) := by decide +kernel
theorem k32_17 : mj_look (mj_prog 32) 17 = some (.istore_n 3, 1, 0, 0) := by decide +kernel
theorem k32_18 : mj_look (mj_prog 32) 18 = some (.iload_n 3, 1, 0, 0) := by decide +kernel
theorem k32_19 : mj_look (mj_prog 32) 19 = some (.aload_n 0, 1, 0, 0) := by decide +kernel
theorem k32_20 : mj_look (mj_prog 32) 20 = some (.getfield 23, 3, 6, 5) := by decide +kernel
theorem k32_23 : mj_look (mj_prog 32) 23 = some (.if_icmp .ge 56, 3, 79, 0) := by decide +kernel
theorem k32_26 : mj_look (mj_prog 32) 26 = some (.aload_n 0, 1, 0, 0) := by decide +kernel
theorem k32_27 : mj_look (mj_prog 32) 27 = some (.getfield 16, 3, 6, 3) := by decide +kernel
theorem k32_30 : mj_look (mj_prog 32) 30 = some (.iconst 1, 1, 0, 0) := by decide +kernel
theorem k32_31 : mj_look (mj_prog 32) 31 = some (.aaload, 1, 0, 0) := by decide +kernel
theorem k32_32 : mj_look (mj_prog 32) 32 = some (.iload_n 3, 1, 0, 0) := by decide +kernel
theorem k32_33 : mj_look (mj_prog 32) 33 = some (.iaload, 1, 0, 0) := by decide +kernel
theorem k32_34 : mj_look (mj_prog 32) 34 = some (.aload_n 0, 1, 0, 0) := by decide +kernel
theorem k32_35 : mj_look (mj_prog 32) 35 = some (.getfield 16, 3, 6, 3) := by decide +kernel
theorem k32_38 : mj_look (mj_prog 32) 38 = some (.iconst 1, 1, 0, 0) := by decide +kernel
theorem k32_39 : mj_look (mj_prog 32) 39 = some (.aaload, 1, 0, 0) := by decide +kernel
theorem k32_40 : mj_look (mj_prog 32) 40 = some (.iload_n 1, 1, 0, 0) := by decide +kernel
theorem k32_41 : mj_look (mj_prog 32) 41 = some (.iaload, 1, 0, 0) := by decide +kernel
theorem k32_42 : mj_look (mj_prog 32) 42 = some (.isub, 1, 0, 0) := by decide +kernel
theorem k32_43 : mj_look (mj_prog 32) 43 = some (.istore 4, 2, 0, 0) := by decide +kernel
theorem k32_45 : mj_look (mj_prog 32) 45 = some (.iload 4, 2, 0, 0) := by decide +kernel
theorem k32_47 : mj_look (mj_prog 32) 47 = some (.ifCond .lt 13, 3, 60, 0) := by decide +kernel
theorem k32_50 : mj_look (mj_prog 32) 50 = some (.iload 4, 2, 0, 0) := by decide +kernel
theorem k32_52 : mj_look (mj_prog 32) 52 = some (.ifCond .ne 14, 3, 66, 0) := by decide +kernel
theorem k32_55 : mj_look (mj_prog 32) 55 = some (.iload_n 3, 1, 0, 0) := by decide +kernel
theorem k32_56 : mj_look (mj_prog 32) 56 = some (.iload_n 1, 1, 0, 0) := by decide +kernel
theorem k32_57 : mj_look (mj_prog 32) 57 = some (.if_icmp .gt 9, 3, 66, 0) := by decide +kernel
theorem k32_60 : mj_look (mj_prog 32) 60 = some (.iinc 4 240, 6, 0, 0) := by decide +kernel
theorem k32_66 : mj_look (mj_prog 32) 66 = some (.iload_n 2, 1, 0, 0) := by decide +kernel
theorem k32_67 : mj_look (mj_prog 32) 67 = some (.iload 4, 2, 0, 0) := by decide +kernel
theorem k32_69 : mj_look (mj_prog 32) 69 = some (.invokestatic 74, 3, 3006, 2) := by decide +kernel
theorem k32_72 : mj_look (mj_prog 32) 72 = some (.istore_n 2, 1, 0, 0) := by decide +kernel
theorem k32_73 : mj_look (mj_prog 32) 73 = some (.iinc 3 1, 3, 0, 0) := by decide +kernel
theorem k32_76 : mj_look (mj_prog 32) 76 = some (.goto (-58), 3, 18, 0) := by decide +kernel
theorem k32_79 : mj_look (mj_prog 32) 79 = some (.iload_n 2, 1, 0, 0) := by decide +kernel
theorem k32_80 : mj_look (mj_prog 32) 80 = some (.aload_n 0, 1, 0, 0) := by decide +kernel
theorem k32_81 : mj_look (mj_prog 32) 81 = some (.getfield 27, 3, 6, 6) := by decide +kernel
theorem k32_84 : mj_look (mj_prog 32) 84 = some (.isub, 1, 0, 0) := by decide +kernel
theorem k32_85 : mj_look (mj_prog 32) 85 = some (.ireturn, 1, 0, 0) := by decide +kernel
theorem mx_33 : (mj_m 33).2.2.1 = 1 := by decide +kernel
theorem rt_33 : (mj_m 33).2.2.2.1 = (some FieldType.int) := by decide +kernel
theorem dp_33 : mj_disp 33 0 = some 33 := by decide +kernel
theorem pq_33 : mj_prog 33 = mj_p33 := rfl
theorem k33_0 : mj_look (mj_prog 33) 0 = some (.aload_n 0, 1, 0, 0) := by decide +kernel
theorem k33_1 : mj_look (mj_prog 33) 1 = some (.invokespecial 15, 3, 34, 0) := by decide +kernel
theorem k33_4 : mj_look (mj_prog 33) 4 = some (.iconst 1, 1, 0, 0) := by decide +kernel
theorem k33_5 : mj_look (mj_prog 33) 5 = some (.iadd, 1, 0, 0) := by decide +kernel
theorem k33_6 : mj_look (mj_prog 33) 6 = some (.ireturn, 1, 0, 0) := by decide +kernel
theorem mx_34 : (mj_m 34).2.2.1 = 1 := by decide +kernel
theorem rt_34 : (mj_m 34).2.2.2.1 = (some FieldType.int) := by decide +kernel
theorem dp_34 : mj_disp 34 5 = some 34 := by decide +kernel
theorem pq_34 : mj_prog 34 = mj_p34 := rfl
theorem k34_0 : mj_look (mj_prog 34) 0 = some (.iconst 3, 1, 0, 0) := by decide +kernel
theorem k34_1 : mj_look (mj_prog 34) 1 = some (.ireturn, 1, 0, 0) := by decide +kernel
theorem mx_35 : (mj_m 35).2.2.1 = 1 := by decide +kernel
theorem rt_35 : (mj_m 35).2.2.2.1 = (some FieldType.int) := by decide +kernel
theorem dp_35 : mj_disp 35 2 = some 35 := by decide +kernel
theorem pq_35 : mj_prog 35 = mj_p35 := rfl
theorem k35_0 : mj_look (mj_prog 35) 0 = some (.iconst 0, 1, 0, 0) := by decide +kernel
theorem k35_1 : mj_look (mj_prog 35) 1 = some (.ireturn, 1, 0, 0) := by decide +kernel
theorem mx_36 : (mj_m 36).2.2.1 = 1 := by decide +kernel
theorem rt_36 : (mj_m 36).2.2.2.1 = (some FieldType.int) := by decide +kernel
theorem dp_36 : mj_disp 36 3 = some 36 := by decide +kernel
theorem pq_36 : mj_prog 36 = mj_p36 := rfl
theorem k36_0 : mj_look (mj_prog 36) 0 = some (.iconst 1, 1, 0, 0) := by decide +kernel
theorem k36_1 : mj_look (mj_prog 36) 1 = some (.ireturn, 1, 0, 0) := by decide +kernel
theorem mx_37 : (mj_m 37).2.2.1 = 1 := by decide +kernel
theorem rt_37 : (mj_m 37).2.2.2.1 = (some FieldType.int) := by decide +kernel
theorem dp_37 : mj_disp 37 1 = some 37 := by decide +kernel
theorem pq_37 : mj_prog 37 = mj_p37 := rfl
theorem k37_0 : mj_look (mj_prog 37) 0 = some (.iconst 2, 1, 0, 0) := by decide +kernel
theorem k37_1 : mj_look (mj_prog 37) 1 = some (.ireturn, 1, 0, 0) := by decide +kernel
theorem mx_38 : (mj_m 38).2.2.1 = 2 := by decide +kernel
theorem rt_38 : (mj_m 38).2.2.2.1 = (some FieldType.int) := by decide +kernel
theorem dp_38 : mj_disp 38 0 = some 38 := by decide +kernel
theorem pq_38 : mj_prog 38 = mj_p38 := rfl
theorem k38_0 : mj_look (mj_prog 38) 0 = some (.aload_n 0, 1, 0, 0) := by decide +kernel
theorem k38_1 : mj_look (mj_prog 38) 1 = some (.iload_n 1, 1, 0, 0) := by decide +kernel
theorem k38_2 : mj_look (mj_prog 38) 2 = some (.invokespecial 19, 3, 39, 1) := by decide +kernel
theorem k38_5 : mj_look (mj_prog 38) 5 = some (.iconst 3, 1, 0, 0) := by decide +kernel
theorem k38_6 : mj_look (mj_prog 38) 6 = some (.isub, 1, 0, 0) := by decide +kernel
theorem k38_7 : mj_look (mj_prog 38) 7 = some (.ireturn, 1, 0, 0) := by decide +kernel
theorem mx_39 : (mj_m 39).2.2.1 = 2 := by decide +kernel
theorem rt_39 : (mj_m 39).2.2.2.1 = (some FieldType.int) := by decide +kernel
theorem dp_39 : mj_disp 39 5 = some 39 := by decide +kernel
theorem pq_39 : mj_prog 39 = mj_p39 := rfl
theorem k39_0 : mj_look (mj_prog 39) 0 = some (.bipush 99, 2, 0, 0) := by decide +kernel
theorem k39_2 : mj_look (mj_prog 39) 2 = some (.iload_n 1, 1, 0, 0) := by decide +kernel
theorem k39_3 : mj_look (mj_prog 39) 3 = some (.isub, 1, 0, 0) := by decide +kernel
theorem k39_4 : mj_look (mj_prog 39) 4 = some (.ireturn, 1, 0, 0) := by decide +kernel
theorem mx_40 : (mj_m 40).2.2.1 = 2 := by decide +kernel
theorem rt_40 : (mj_m 40).2.2.2.1 = (some FieldType.int) := by decide +kernel
theorem dp_40 : mj_disp 40 2 = some 40 := by decide +kernel
theorem pq_40 : mj_prog 40 = mj_p40 := rfl
theorem k40_0 : mj_look (mj_prog 40) 0 = some (.iconst 4, 1, 0, 0) := by decide +kernel
theorem k40_1 : mj_look (mj_prog 40) 1 = some (.ireturn, 1, 0, 0) := by decide +kernel
theorem mx_41 : (mj_m 41).2.2.1 = 2 := by decide +kernel
theorem rt_41 : (mj_m 41).2.2.2.1 = (some FieldType.int) := by decide +kernel
theorem dp_41 : mj_disp 41 3 = some 41 := by decide +kernel
theorem pq_41 : mj_prog 41 = mj_p41 := rfl
theorem k41_0 : mj_look (mj_prog 41) 0 = some (.iload_n 1, 1, 0, 0) := by decide +kernel
theorem k41_1 : mj_look (mj_prog 41) 1 = some (.bipush 8, 2, 0, 0) := by decide +kernel
theorem k41_3 : mj_look (mj_prog 41) 3 = some (.iadd, 1, 0, 0) := by decide +kernel
theorem k41_4 : mj_look (mj_prog 41) 4 = some (.ireturn, 1, 0, 0) := by decide +kernel
theorem mx_42 : (mj_m 42).2.2.1 = 2 := by decide +kernel
theorem rt_42 : (mj_m 42).2.2.2.1 = (some FieldType.int) := by decide +kernel
theorem dp_42 : mj_disp 42 4 = some 42 := by decide +kernel
theorem pq_42 : mj_prog 42 = mj_p42 := rfl
theorem k42_0 : mj_look (mj_prog 42) 0 = some (.iconst 2, 1, 0, 0) := by decide +kernel
theorem k42_1 : mj_look (mj_prog 42) 1 = some (.aload_n 0, 1, 0, 0) := by decide +kernel
theorem k42_2 : mj_look (mj_prog 42) 2 = some (.iload_n 1, 1, 0, 0) := by decide +kernel
theorem k42_3 : mj_look (mj_prog 42) 3 = some (.invokespecial 21, 3, 41, 1) := by decide +kernel
theorem k42_6 : mj_look (mj_prog 42) 6 = some (.imul, 1, 0, 0) := by decide +kernel
theorem k42_7 : mj_look (mj_prog 42) 7 = some (.ireturn, 1, 0, 0) := by decide +kernel
theorem mx_43 : (mj_m 43).2.2.1 = 2 := by decide +kernel
theorem rt_43 : (mj_m 43).2.2.2.1 = (some FieldType.int) := by decide +kernel
theorem dp_43 : mj_disp 43 1 = some 43 := by decide +kernel
theorem pq_43 : mj_prog 43 = mj_p43 := rfl
theorem k43_0 : mj_look (mj_prog 43) 0 = some (.iload_n 1, 1, 0, 0) := by decide +kernel
theorem k43_1 : mj_look (mj_prog 43) 1 = some (.ireturn, 1, 0, 0) := by decide +kernel
theorem mx_44 : (mj_m 44).2.2.1 = 3 := by decide +kernel
theorem rt_44 : (mj_m 44).2.2.2.1 = (some FieldType.int) := by decide +kernel
theorem dp_44 : mj_disp 44 11 = some 44 := by decide +kernel
theorem pq_44 : mj_prog 44 = mj_p44 := rfl
theorem k44_0 : mj_look (mj_prog 44) 0 = some (.aload_n 0, 1, 0, 0) := by decide +kernel
theorem k44_1 : mj_look (mj_prog 44) 1 = some (.iload_n 1, 1, 0, 0) := by decide +kernel
theorem k44_2 : mj_look (mj_prog 44) 2 = some (.invokevirtual 105, 3, 19, 1) := by decide +kernel
theorem k44_5 : mj_look (mj_prog 44) 5 = some (.ifCond .eq 22, 3, 27, 0) := by decide +kernel
theorem k44_8 : mj_look (mj_prog 44) 8 = some (.iload_n 2, 1, 0, 0) := by decide +kernel
theorem k44_9 : mj_look (mj_prog 44) 9 = some (.invokestatic 134, 3, 45, 1) := by decide +kernel
theorem k44_12 : mj_look (mj_prog 44) 12 = some (.ifCond .eq 15, 3, 27, 0) := by decide +kernel
theorem k44_15 : mj_look (mj_prog 44) 15 = some (.aload_n 0, 1, 0, 0) := by decide +kernel
theorem k44_16 : mj_look (mj_prog 44) 16 = some (.getfield 49, 3, 11, 3) := by decide +kernel
theorem k44_19 : mj_look (mj_prog 44) 19 = some (.iload_n 1, 1, 0, 0) := by decide +kernel
theorem k44_20 : mj_look (mj_prog 44) 20 = some (.iload_n 2, 1, 0, 0) := by decide +kernel
theorem k44_21 : mj_look (mj_prog 44) 21 = some (.invokevirtual 116, 3, 21, 2) := by decide +kernel
theorem k44_24 : mj_look (mj_prog 44) 24 = some (.goto 5, 3, 29, 0) := by decide +kernel
theorem k44_27 : mj_look (mj_prog 44) 27 = some (.ldc 96, 2, 3294967295, 0) := by decide +kernel
theorem k44_29 : mj_look (mj_prog 44) 29 = some (.ireturn, 1, 0, 0) := by decide +kernel
theorem mx_45 : (mj_m 45).2.2.1 = 1 := by decide +kernel
theorem rt_45 : (mj_m 45).2.2.2.1 = (some FieldType.boolean) := by decide +kernel
theorem dp_45 : mj_disp 45 11 = some 45 := by decide +kernel
theorem pq_45 : mj_prog 45 = mj_p45 := rfl
theorem k45_0 : mj_look (mj_prog 45) 0 = some (.iload_n 0, 1, 0, 0) := by decide +kernel
theorem k45_1 : mj_look (mj_prog 45) 1 = some (.ifCond .lt 13, 3, 14, 0) := by decide +kernel
theorem k45_4 : mj_look (mj_prog 45) 4 = some (.iload_n 0, 1, 0, 0) := by decide +kernel
theorem k45_5 : mj_look (mj_prog 45) 5 = some (.bipush 12, 2, 0, 0) := by decide +kernel
theorem k45_7 : mj_look (mj_prog 45) 7 = some (.if_icmp .ge 7, 3, 14, 0) := by decide +kernel
theorem k45_10 : mj_look (mj_prog 45) 10 = some (.iconst 1, 1, 0, 0) := by decide +kernel
theorem k45_11 : mj_look (mj_prog 45) 11 = some (.goto 4, 3, 15, 0) := by decide +kernel
theorem k45_14 : mj_look (mj_prog 45) 14 = some (.iconst 0, 1, 0, 0) := by decide +kernel
theorem k45_15 : mj_look (mj_prog 45) 15 = some (.ireturn, 1, 0, 0) := by decide +kernel
theorem mx_46 : (mj_m 46).2.2.1 = 3 := by decide +kernel
theorem rt_46 : (mj_m 46).2.2.2.1 = (some FieldType.int) := by decide +kernel
theorem dp_46 : mj_disp 46 11 = some 46 := by decide +kernel
theorem pq_46 : mj_prog 46 = mj_p46 := rfl
theorem k46_0 : mj_look (mj_prog 46) 0 = some (.aload_n 0, 1, 0, 0) := by decide +kernel
theorem k46_1 : mj_look (mj_prog 46) 1 = some (.iload_n 1, 1, 0, 0) := by decide +kernel
theorem k46_2 : mj_look (mj_prog 46) 2 = some (.invokevirtual 105, 3, 19, 1) := by decide +kernel
theorem k46_5 : mj_look (mj_prog 46) 5 = some (.ifCond .eq 10, 3, 15, 0) := by decide +kernel
theorem k46_8 : mj_look (mj_prog 46) 8 = some (.iload_n 2, 1, 0, 0) := by decide +kernel
theorem k46_9 : mj_look (mj_prog 46) 9 = some (.invokestatic 86, 3, 13, 1) := by decide +kernel
theorem k46_12 : mj_look (mj_prog 46) 12 = some (.ifCond .ne 6, 3, 18, 0) := by decide +kernel
theorem k46_15 : mj_look (mj_prog 46) 15 = some (.ldc 96, 2, 3294967295, 0) := by decide +kernel
theorem k46_17 : mj_look (mj_prog 46) 17 = some (.ireturn, 1, 0, 0) := by decide +kernel
theorem k46_18 : mj_look (mj_prog 46) 18 = some (.aload_n 0, 1, 0, 0) := by decide +kernel
theorem k46_19 : mj_look (mj_prog 46) 19 = some (.getfield 49, 3, 11, 3) := by decide +kernel
theorem k46_22 : mj_look (mj_prog 46) 22 = some (.iload_n 1, 1, 0, 0) := by decide +kernel
theorem k46_23 : mj_look (mj_prog 46) 23 = some (.invokevirtual 123, 3, 24, 1) := by decide +kernel
theorem k46_26 : mj_look (mj_prog 46) 26 = some (.iload_n 2, 1, 0, 0) := by decide +kernel
theorem k46_27 : mj_look (mj_prog 46) 27 = some (.invokevirtual 137, 3, 1000, 1) := by decide +kernel
theorem k46_30 : mj_look (mj_prog 46) 30 = some (.ifCond .eq 17, 3, 47, 0) := by decide +kernel
theorem k46_33 : mj_look (mj_prog 46) 33 = some (.aload_n 0, 1, 0, 0) := by decide +kernel
theorem k46_34 : mj_look (mj_prog 46) 34 = some (.getfield 49, 3, 11, 3) := by decide +kernel
theorem k46_37 : mj_look (mj_prog 46) 37 = some (.getfield 108, 3, 6, 3) := by decide +kernel
theorem k46_40 : mj_look (mj_prog 46) 40 = some (.iconst 2, 1, 0, 0) := by decide +kernel
theorem k46_41 : mj_look (mj_prog 46) 41 = some (.aaload, 1, 0, 0) := by decide +kernel
theorem k46_42 : mj_look (mj_prog 46) 42 = some (.iload_n 1, 1, 0, 0) := by decide +kernel
theorem k46_43 : mj_look (mj_prog 46) 43 = some (.iaload, 1, 0, 0) := by decide +kernel
theorem k46_44 : mj_look (mj_prog 46) 44 = some (.goto 5, 3, 49, 0) := by decide +kernel
theorem k46_47 : mj_look (mj_prog 46) 47 = some (.ldc 140, 2, 3294967284, 0) := by decide +kernel
theorem k46_49 : mj_look (mj_prog 46) 49 = some (.ireturn, 1, 0, 0) := by decide +kernel
theorem mx_47 : (mj_m 47).2.2.1 = 2 := by decide +kernel
theorem rt_47 : (mj_m 47).2.2.2.1 = (some FieldType.boolean) := by decide +kernel
theorem dp_47 : mj_disp 47 0 = some 47 := by decide +kernel
theorem pq_47 : mj_prog 47 = mj_p47 := rfl
theorem k47_0 : mj_look (mj_prog 47) 0 = some (.iload_n 1, 1, 0, 0) := by decide +kernel
theorem k47_1 : mj_look (mj_prog 47) 1 = some (.iconst 4, 1, 0, 0) := by decide +kernel
theorem k47_2 : mj_look (mj_prog 47) 2 = some (.if_icmp .eq 11, 3, 13, 0) := by decide +kernel
theorem k47_5 : mj_look (mj_prog 47) 5 = some (.aload_n 0, 1, 0, 0) := by decide +kernel
theorem k47_6 : mj_look (mj_prog 47) 6 = some (.iload_n 1, 1, 0, 0) := by decide +kernel
theorem k47_7 : mj_look (mj_prog 47) 7 = some (.invokespecial 7, 3, 48, 1) := by decide +kernel
theorem k47_10 : mj_look (mj_prog 47) 10 = some (.ifCond .eq 7, 3, 17, 0) := by decide +kernel
theorem k47_13 : mj_look (mj_prog 47) 13 = some (.iconst 1, 1, 0, 0) := by decide +kernel
theorem k47_14 : mj_look (mj_prog 47) 14 = some (.goto 4, 3, 18, 0) := by decide +kernel
theorem k47_17 : mj_look (mj_prog 47) 17 = some (.iconst 0, 1, 0, 0) := by decide +kernel
theorem k47_18 : mj_look (mj_prog 47) 18 = some (.ireturn, 1, 0, 0) := by decide +kernel
theorem mx_48 : (mj_m 48).2.2.1 = 2 := by decide +kernel
theorem rt_48 : (mj_m 48).2.2.2.1 = (some FieldType.boolean) := by decide +kernel
theorem dp_48 : mj_disp 48 5 = some 48 := by decide +kernel
theorem pq_48 : mj_prog 48 = mj_p48 := rfl
theorem k48_0 : mj_look (mj_prog 48) 0 = some (.iload_n 1, 1, 0, 0) := by decide +kernel
theorem k48_1 : mj_look (mj_prog 48) 1 = some (.iconst 2, 1, 0, 0) := by decide +kernel
theorem k48_2 : mj_look (mj_prog 48) 2 = some (.if_icmp .eq 11, 3, 13, 0) := by decide +kernel
theorem k48_5 : mj_look (mj_prog 48) 5 = some (.aload_n 0, 1, 0, 0) := by decide +kernel
theorem k48_6 : mj_look (mj_prog 48) 6 = some (.iload_n 1, 1, 0, 0) := by decide +kernel
theorem k48_7 : mj_look (mj_prog 48) 7 = some (.invokespecial 7, 3, 52, 1) := by decide +kernel
theorem k48_10 : mj_look (mj_prog 48) 10 = some (.ifCond .eq 7, 3, 17, 0) := by decide +kernel
theorem k48_13 : mj_look (mj_prog 48) 13 = some (.iconst 1, 1, 0, 0) := by decide +kernel
theorem k48_14 : mj_look (mj_prog 48) 14 = some (.goto 4, 3, 18, 0) := by decide +kernel
theorem k48_17 : mj_look (mj_prog 48) 17 = some (.iconst 0, 1, 0, 0) := by decide +kernel
theorem k48_18 : mj_look (mj_prog 48) 18 = some (.ireturn, 1, 0, 0) := by decide +kernel
theorem mx_49 : (mj_m 49).2.2.1 = 2 := by decide +kernel
theorem rt_49 : (mj_m 49).2.2.2.1 = (some FieldType.boolean) := by decide +kernel
theorem dp_49 : mj_disp 49 2 = some 49 := by decide +kernel
theorem pq_49 : mj_prog 49 = mj_p49 := rfl
theorem k49_0 : mj_look (mj_prog 49) 0 = some (.iload_n 1, 1, 0, 0) := by decide +kernel
theorem k49_1 : mj_look (mj_prog 49) 1 = some (.iconst 5, 1, 0, 0) := by decide +kernel
theorem k49_2 : mj_look (mj_prog 49) 2 = some (.if_icmp .eq 11, 3, 13, 0) := by decide +kernel
theorem k49_5 : mj_look (mj_prog 49) 5 = some (.aload_n 0, 1, 0, 0) := by decide +kernel
theorem k49_6 : mj_look (mj_prog 49) 6 = some (.iload_n 1, 1, 0, 0) := by decide +kernel
theorem k49_7 : mj_look (mj_prog 49) 7 = some (.invokespecial 7, 3, 52, 1) := by decide +kernel
theorem k49_10 : mj_look (mj_prog 49) 10 = some (.ifCond .eq 7, 3, 17, 0) := by decide +kernel
theorem k49_13 : mj_look (mj_prog 49) 13 = some (.iconst 1, 1, 0, 0) := by decide +kernel
theorem k49_14 : mj_look (mj_prog 49) 14 = some (.goto 4, 3, 18, 0) := by decide +kernel
theorem k49_17 : mj_look (mj_prog 49) 17 = some (.iconst 0, 1, 0, 0) := by decide +kernel
theorem k49_18 : mj_look (mj_prog 49) 18 = some (.ireturn, 1, 0, 0) := by decide +kernel
theorem mx_50 : (mj_m 50).2.2.1 = 2 := by decide +kernel
theorem rt_50 : (mj_m 50).2.2.2.1 = (some FieldType.boolean) := by decide +kernel
theorem dp_50 : mj_disp 50 3 = some 50 := by decide +kernel
theorem pq_50 : mj_prog 50 = mj_p50 := rfl
theorem k50_0 : mj_look (mj_prog 50) 0 = some (.iload_n 1, 1, 0, 0) := by decide +kernel
theorem k50_1 : mj_look (mj_prog 50) 1 = some (.iconst 1, 1, 0, 0) := by decide +kernel
theorem k50_2 : mj_look (mj_prog 50) 2 = some (.if_icmp .eq 11, 3, 13, 0) := by decide +kernel
theorem k50_5 : mj_look (mj_prog 50) 5 = some (.aload_n 0, 1, 0, 0) := by decide +kernel
theorem k50_6 : mj_look (mj_prog 50) 6 = some (.iload_n 1, 1, 0, 0) := by decide +kernel
theorem k50_7 : mj_look (mj_prog 50) 7 = some (.invokespecial 9, 3, 52, 1) := by decide +kernel
theorem k50_10 : mj_look (mj_prog 50) 10 = some (.ifCond .eq 7, 3, 17, 0) := by decide +kernel
theorem k50_13 : mj_look (mj_prog 50) 13 = some (.iconst 1, 1, 0, 0) := by decide +kernel
theorem k50_14 : mj_look (mj_prog 50) 14 = some (.goto 4, 3, 18, 0) := by decide +kernel
theorem k50_17 : mj_look (mj_prog 50) 17 = some (.iconst 0, 1, 0, 0) := by decide +kernel
theorem k50_18 : mj_look (mj_prog 50) 18 = some (.ireturn, 1, 0, 0) := by decide +kernel
theorem mx_51 : (mj_m 51).2.2.1 = 2 := by decide +kernel
theorem rt_51 : (mj_m 51).2.2.2.1 = (some FieldType.boolean) := by decide +kernel
theorem dp_51 : mj_disp 51 4 = some 51 := by decide +kernel
theorem pq_51 : mj_prog 51 = mj_p51 := rfl
theorem k51_0 : mj_look (mj_prog 51) 0 = some (.iload_n 1, 1, 0, 0) := by decide +kernel
theorem k51_1 : mj_look (mj_prog 51) 1 = some (.iconst 3, 1, 0, 0) := by decide +kernel
theorem k51_2 : mj_look (mj_prog 51) 2 = some (.if_icmp .eq 11, 3, 13, 0) := by decide +kernel
theorem k51_5 : mj_look (mj_prog 51) 5 = some (.aload_n 0, 1, 0, 0) := by decide +kernel
theorem k51_6 : mj_look (mj_prog 51) 6 = some (.iload_n 1, 1, 0, 0) := by decide +kernel
theorem k51_7 : mj_look (mj_prog 51) 7 = some (.invokespecial 7, 3, 50, 1) := by decide +kernel
theorem k51_10 : mj_look (mj_prog 51) 10 = some (.ifCond .eq 7, 3, 17, 0) := by decide +kernel
theorem k51_13 : mj_look (mj_prog 51) 13 = some (.iconst 1, 1, 0, 0) := by decide +kernel
theorem k51_14 : mj_look (mj_prog 51) 14 = some (.goto 4, 3, 18, 0) := by decide +kernel
theorem k51_17 : mj_look (mj_prog 51) 17 = some (.iconst 0, 1, 0, 0) := by decide +kernel
theorem k51_18 : mj_look (mj_prog 51) 18 = some (.ireturn, 1, 0, 0) := by decide +kernel
theorem mx_52 : (mj_m 52).2.2.1 = 2 := by decide +kernel
theorem rt_52 : (mj_m 52).2.2.2.1 = (some FieldType.boolean) := by decide +kernel
theorem dp_52 : mj_disp 52 1 = some 52 := by decide +kernel
theorem pq_52 : mj_prog 52 = mj_p52 := rfl
theorem k52_0 : mj_look (mj_prog 52) 0 = some (.iload_n 1, 1, 0, 0) := by decide +kernel
theorem k52_1 : mj_look (mj_prog 52) 1 = some (.ifCond .ne 7, 3, 8, 0) := by decide +kernel
theorem k52_4 : mj_look (mj_prog 52) 4 = some (.iconst 1, 1, 0, 0) := by decide +kernel
theorem k52_5 : mj_look (mj_prog 52) 5 = some (.goto 4, 3, 9, 0) := by decide +kernel
theorem k52_8 : mj_look (mj_prog 52) 8 = some (.iconst 0, 1, 0, 0) := by decide +kernel
theorem k52_9 : mj_look (mj_prog 52) 9 = some (.ireturn, 1, 0, 0) := by decide +kernel
theorem mx_53 : (mj_m 53).2.2.1 = 4 := by decide +kernel
theorem rt_53 : (mj_m 53).2.2.2.1 = (some FieldType.int) := by decide +kernel
theorem dp_53 : mj_disp 53 11 = some 53 := by decide +kernel
theorem pq_53 : mj_prog 53 = mj_p53 := rfl
theorem k53_0 : mj_look (mj_prog 53) 0 = some (.aload_n 0, 1, 0, 0) := by decide +kernel
theorem k53_1 : mj_look (mj_prog 53) 1 = some (.iload_n 1, 1, 0, 0) := by decide +kernel
theorem k53_2 : mj_look (mj_prog 53) 2 = some (.invokevirtual 105, 3, 19, 1) := by decide +kernel
theorem k53_5 : mj_look (mj_prog 53) 5 = some (.ifCond .eq 10, 3, 15, 0) := by decide +kernel
theorem k53_8 : mj_look (mj_prog 53) 8 = some (.iload_n 2, 1, 0, 0) := by decide +kernel
theorem k53_9 : mj_look (mj_prog 53) 9 = some (.invokestatic 86, 3, 13, 1) := by decide +kernel
theorem k53_12 : mj_look (mj_prog 53) 12 = some (.ifCond .ne 6, 3, 18, 0) := by decide +kernel
theorem k53_15 : mj_look (mj_prog 53) 15 = some (.ldc 96, 2, 3294967295, 0) := by decide +kernel
theorem k53_17 : mj_look (mj_prog 53) 17 = some (.ireturn, 1, 0, 0) := by decide +kernel
theorem k53_18 : mj_look (mj_prog 53) 18 = some (.aload_n 0, 1, 0, 0) := by decide +kernel
theorem k53_19 : mj_look (mj_prog 53) 19 = some (.getfield 49, 3, 11, 3) := by decide +kernel
theorem k53_22 : mj_look (mj_prog 53) 22 = some (.getfield 108, 3, 6, 3) := by decide +kernel
theorem k53_25 : mj_look (mj_prog 53) 25 = some (.iconst 0, 1, 0, 0) := by decide +kernel
theorem k53_26 : mj_look (mj_prog 53) 26 = some (.aaload, 1, 0, 0) := by decide +kernel
theorem k53_27 : mj_look (mj_prog 53) 27 = some (.iload_n 1, 1, 0, 0) := by decide +kernel
theorem k53_28 : mj_look (mj_prog 53) 28 = some (.iaload, 1, 0, 0) := by decide +kernel
theorem k53_29 : mj_look (mj_prog 53) 29 = some (.istore_n 3, 1, 0, 0) := by decide +kernel
theorem k53_30 : mj_look (mj_prog 53) 30 = some (.aload_n 0, 1, 0, 0) := by decide +kernel
theorem k53_31 : mj_look (mj_prog 53) 31 = some (.getfield 49, 3, 11, 3) := by decide +kernel
theorem k53_34 : mj_look (mj_prog 53) 34 = some (.getfield 108, 3, 6, 3) := by decide +kernel
theorem k53_37 : mj_look (mj_prog 53) 37 = some (.iconst 0, 1, 0, 0) := by decide +kernel
theorem k53_38 : mj_look (mj_prog 53) 38 = some (.aaload, 1, 0, 0) := by decide +kernel
theorem k53_39 : mj_look (mj_prog 53) 39 = some (.iload_n 1, 1, 0, 0) := by decide +kernel
theorem k53_40 : mj_look (mj_prog 53) 40 = some (.iload_n 2, 1, 0, 0) := by decide +kernel
theorem k53_41 : mj_look (mj_prog 53) 41 = some (.iastore, 1, 0, 0) := by decide +kernel
theorem k53_42 : mj_look (mj_prog 53) 42 = some (.iload_n 3, 1, 0, 0) := by decide +kernel
theorem k53_43 : mj_look (mj_prog 53) 43 = some (.ireturn, 1, 0, 0) := by decide +kernel
theorem mx_54 : (mj_m 54).2.2.1 = 6 := by decide +kernel
theorem rt_54 : (mj_m 54).2.2.2.1 = (some FieldType.int) := by decide +kernel
theorem dp_54 : mj_disp 54 11 = some 54 := by decide +kernel
theorem pq_54 : mj_prog 54 = mj_p54 := rfl
theorem k54_0 : mj_look (mj_prog 54) 0 = some (.iload_n 2, 1, 0, 0) := by decide +kernel
theorem k54_1 : mj_look (mj_prog 54) 1 = some (.iconst 1, 1, 0, 0) := by decide +kernel
theorem k54_2 : mj_look (mj_prog 54) 2 = some (.if_icmp .ne 10, 3, 12, 0) := by decide +kernel
theorem k54_5 : mj_look (mj_prog 54) 5 = some (.iload_n 3, 1, 0, 0) := by decide +kernel
theorem k54_6 : mj_look (mj_prog 54) 6 = some (.invokestatic 90, 3, 14, 1) := by decide +kernel
theorem k54_9 : mj_look (mj_prog 54) 9 = some (.ifCond .ne 15, 3, 24, 0) := by decide +kernel
theorem k54_12 : mj_look (mj_prog 54) 12 = some (.iload_n 2, 1, 0, 0) := by decide +kernel
theorem k54_13 : mj_look (mj_prog 54) 13 = some (.iconst 2, 1, 0, 0) := by decide +kernel
theorem k54_14 : mj_look (mj_prog 54) 14 = some (.if_icmp .ne 14, 3, 28, 0) := by decide +kernel
theorem k54_17 : mj_look (mj_prog 54) 17 = some (.iload_n 3, 1, 0, 0) := by decide +kernel
theorem k54_18 : mj_look (mj_prog 54) 18 = some (.invokestatic 93, 3, 15, 1) := by decide +kernel
theorem k54_21 : mj_look (mj_prog 54) 21 = some (.ifCond .eq 7, 3, 28, 0) := by decide +kernel
theorem k54_24 : mj_look (mj_prog 54) 24 = some (.iconst 1, 1, 0, 0) := by decide +kernel
theorem k54_25 : mj_look (mj_prog 54) 25 = some (.goto 4, 3, 29, 0) := by decide +kernel
theorem k54_28 : mj_look (mj_prog 54) 28 = some (.iconst 0, 1, 0, 0) := by decide +kernel
theorem k54_29 : mj_look (mj_prog 54) 29 = some (.istore 4, 2, 0, 0) := by decide +kernel
theorem k54_31 : mj_look (mj_prog 54) 31 = some (.aload_n 0, 1, 0, 0) := by decide +kernel
theorem k54_32 : mj_look (mj_prog 54) 32 = some (.iload_n 1, 1, 0, 0) := by decide +kernel
theorem k54_33 : mj_look (mj_prog 54) 33 = some (.invokevirtual 105, 3, 19, 1) := by decide +kernel
theorem k54_36 : mj_look (mj_prog 54) 36 = some (.ifCond .eq 8, 3, 44, 0) := by decide +kernel
theorem k54_39 : mj_look (mj_prog 54) 39 = some (.iload 4, 2, 0, 0) := by decide +kernel
theorem k54_41 : mj_look (mj_prog 54) 41 = some (.ifCond .ne 6, 3, 47, 0) := by decide +kernel
theorem k54_44 : mj_look (mj_prog 54) 44 = some (.ldc 96, 2, 3294967295, 0) := by decide +kernel
theorem k54_46 : mj_look (mj_prog 54) 46 = some (.ireturn, 1, 0, 0) := by decide +kernel
theorem k54_47 : mj_look (mj_prog 54) 47 = some (.aload_n 0, 1, 0, 0) := by decide +kernel
theorem k54_48 : mj_look (mj_prog 54) 48 = some (.getfield 49, 3, 11, 3) := by decide +kernel
theorem k54_51 : mj_look (mj_prog 54) 51 = some (.getfield 108, 3, 6, 3) := by decide +kernel
theorem k54_54 : mj_look (mj_prog 54) 54 = some (.iload_n 2, 1, 0, 0) := by decide +kernel
theorem k54_55 : mj_look (mj_prog 54) 55 = some (.aaload, 1, 0, 0) := by decide +kernel
theorem k54_56 : mj_look (mj_prog 54) 56 = some (.iload_n 1, 1, 0, 0) := by decide +kernel
theorem k54_57 : mj_look (mj_prog 54) 57 = some (.iaload, 1, 0, 0) := by decide +kernel
theorem k54_58 : mj_look (mj_prog 54) 58 = some (.istore 5, 2, 0, 0) := by decide +kernel
theorem k54_60 : mj_look (mj_prog 54) 60 = some (.aload_n 0, 1, 0, 0) := by decide +kernel
theorem k54_61 : mj_look (mj_prog 54) 61 = some (.getfield 49, 3, 11, 3) := by decide +kernel
theorem k54_64 : mj_look (mj_prog 54) 64 = some (.getfield 108, 3, 6, 3) := by decide +kernel
theorem k54_67 : mj_look (mj_prog 54) 67 = some (.iload_n 2, 1, 0, 0) := by decide +kernel
theorem k54_68 : mj_look (mj_prog 54) 68 = some (.aaload, 1, 0, 0) := by decide +kernel
theorem k54_69 : mj_look (mj_prog 54) 69 = some (.iload_n 1, 1, 0, 0) := by decide +kernel
theorem k54_70 : mj_look (mj_prog 54) 70 = some (.iload_n 3, 1, 0, 0) := by decide +kernel
theorem k54_71 : mj_look (mj_prog 54) 71 = some (.iastore, 1, 0, 0) := by decide +kernel
theorem k54_72 : mj_look (mj_prog 54) 72 = some (.iload 5, 2, 0, 0) := by decide +kernel
theorem k54_74 : mj_look (mj_prog 54) 74 = some (.ireturn, 1, 0, 0) := by decide +kernel
theorem mx_55 : (mj_m 55).2.2.1 = 3 := by decide +kernel
theorem rt_55 : (mj_m 55).2.2.2.1 = (some FieldType.int) := by decide +kernel
theorem dp_55 : mj_disp 55 11 = some 55 := by decide +kernel
theorem pq_55 : mj_prog 55 = mj_p55 := rfl
theorem k55_0 : mj_look (mj_prog 55) 0 = some (.iload_n 1, 1, 0, 0) := by decide +kernel
theorem k55_1 : mj_look (mj_prog 55) 1 = some (.invokestatic 134, 3, 45, 1) := by decide +kernel
theorem k55_4 : mj_look (mj_prog 55) 4 = some (.ifCond .eq 26, 3, 30, 0) := by decide +kernel
theorem k55_7 : mj_look (mj_prog 55) 7 = some (.iload_n 2, 1, 0, 0) := by decide +kernel
theorem k55_8 : mj_look (mj_prog 55) 8 = some (.iconst 0, 1, 0, 0) := by decide +kernel
theorem k55_9 : mj_look (mj_prog 55) 9 = some (.iconst 3, 1, 0, 0) := by decide +kernel
theorem k55_10 : mj_look (mj_prog 55) 10 = some (.invokestatic 141, 3, 16, 3) := by decide +kernel
theorem k55_13 : mj_look (mj_prog 55) 13 = some (.ifCond .eq 17, 3, 30, 0) := by decide +kernel
theorem k55_16 : mj_look (mj_prog 55) 16 = some (.aload_n 0, 1, 0, 0) := by decide +kernel
theorem k55_17 : mj_look (mj_prog 55) 17 = some (.getfield 49, 3, 11, 3) := by decide +kernel
theorem k55_20 : mj_look (mj_prog 55) 20 = some (.getfield 145, 3, 6, 2) := by decide +kernel
theorem k55_23 : mj_look (mj_prog 55) 23 = some (.iload_n 2, 1, 0, 0) := by decide +kernel
theorem k55_24 : mj_look (mj_prog 55) 24 = some (.aaload, 1, 0, 0) := by decide +kernel
theorem k55_25 : mj_look (mj_prog 55) 25 = some (.iload_n 1, 1, 0, 0) := by decide +kernel
theorem k55_26 : mj_look (mj_prog 55) 26 = some (.iaload, 1, 0, 0) := by decide +kernel
theorem k55_27 : mj_look (mj_prog 55) 27 = some (.goto 5, 3, 32, 0) := by decide +kernel
theorem k55_30 : mj_look (mj_prog 55) 30 = some (.ldc 96, 2, 3294967295, 0) := by decide +kernel
theorem k55_32 : mj_look (mj_prog 55) 32 = some (.ireturn, 1, 0, 0) := by decide +kernel
theorem mx_56 : (mj_m 56).2.2.1 = 6 := by decide +kernel
theorem rt_56 : (mj_m 56).2.2.2.1 = (some FieldType.int) := by decide +kernel
theorem dp_56 : mj_disp 56 11 = some 56 := by decide +kernel
theorem pq_56 : mj_prog 56 = mj_p56 := rfl
theorem k56_0 : mj_look (mj_prog 56) 0 = some (.iload_n 2, 1, 0, 0) := by decide +kernel
theorem k56_1 : mj_look (mj_prog 56) 1 = some (.ifCond .ne 14, 3, 15, 0) := by decide +kernel
theorem k56_4 : mj_look (mj_prog 56) 4 = some (.iload_n 3, 1, 0, 0) := by decide +kernel
theorem k56_5 : mj_look (mj_prog 56) 5 = some (.bipush (-9), 2, 0, 0) := by decide +kernel
theorem k56_7 : mj_look (mj_prog 56) 7 = some (.bipush 9, 2, 0, 0) := by decide +kernel
theorem k56_9 : mj_look (mj_prog 56) 9 = some (.invokestatic 141, 3, 16, 3) := by decide +kernel
theorem k56_12 : mj_look (mj_prog 56) 12 = some (.ifCond .ne 33, 3, 45, 0) := by decide +kernel
theorem k56_15 : mj_look (mj_prog 56) 15 = some (.iload_n 2, 1, 0, 0) := by decide +kernel
theorem k56_16 : mj_look (mj_prog 56) 16 = some (.iconst 1, 1, 0, 0) := by decide +kernel
theorem k56_17 : mj_look (mj_prog 56) 17 = some (.if_icmp .ne 13, 3, 30, 0) := by decide +kernel
theorem k56_20 : mj_look (mj_prog 56) 20 = some (.iload_n 3, 1, 0, 0) := by decide +kernel
theorem k56_21 : mj_look (mj_prog 56) 21 = some (.iconst 0, 1, 0, 0) := by decide +kernel
theorem k56_22 : mj_look (mj_prog 56) 22 = some (.bipush 9, 2, 0, 0) := by decide +kernel
theorem k56_24 : mj_look (mj_prog 56) 24 = some (.invokestatic 141, 3, 16, 3) := by decide +kernel
theorem k56_27 : mj_look (mj_prog 56) 27 = some (.ifCond .ne 18, 3, 45, 0) := by decide +kernel
theorem k56_30 : mj_look (mj_prog 56) 30 = some (.iload_n 2, 1, 0, 0) := by decide +kernel
theorem k56_31 : mj_look (mj_prog 56) 31 = some (.iconst 2, 1, 0, 0) := by decide +kernel
theorem k56_32 : mj_look (mj_prog 56) 32 = some (.if_icmp .ne 17, 3, 49, 0) := by decide +kernel
theorem k56_35 : mj_look (mj_prog 56) 35 = some (.iload_n 3, 1, 0, 0) := by decide +kernel
theorem k56_36 : mj_look (mj_prog 56) 36 = some (.iconst 0, 1, 0, 0) := by decide +kernel
theorem k56_37 : mj_look (mj_prog 56) 37 = some (.bipush 60, 2, 0, 0) := by decide +kernel
theorem k56_39 : mj_look (mj_prog 56) 39 = some (.invokestatic 141, 3, 16, 3) := by decide +kernel
theorem k56_42 : mj_look (mj_prog 56) 42 = some (.ifCond .eq 7, 3, 49, 0) := by decide +kernel
theorem k56_45 : mj_look (mj_prog 56) 45 = some (.iconst 1, 1, 0, 0) := by decide +kernel
theorem k56_46 : mj_look (mj_prog 56) 46 = some (.goto 4, 3, 50, 0) := by decide +kernel
theorem k56_49 : mj_look (mj_prog 56) 49 = some (.iconst 0, 1, 0, 0) := by decide +kernel
theorem k56_50 : mj_look (mj_prog 56) 50 = some (.istore 4, 2, 0, 0) := by decide +kernel
theorem k56_52 : mj_look (mj_prog 56) 52 = some (.iload_n 1, 1, 0, 0) := by decide +kernel
theorem k56_53 : mj_look (mj_prog 56) 53 = some (.invokestatic 134, 3, 45, 1) := by decide +kernel
theorem k56_56 : mj_look (mj_prog 56) 56 = some (.ifCond .eq 8, 3, 64, 0) := by decide +kernel
theorem k56_59 : mj_look (mj_prog 56) 59 = some (.iload 4, 2, 0, 0) := by decide +kernel
theorem k56_61 : mj_look (mj_prog 56) 61 = some (.ifCond .ne 6, 3, 67, 0) := by decide +kernel
theorem k56_64 : mj_look (mj_prog 56) 64 = some (.ldc 96, 2, 3294967295, 0) := by decide +kernel
theorem k56_66 : mj_look (mj_prog 56) 66 = some (.ireturn, 1, 0, 0) := by decide +kernel
theorem k56_67 : mj_look (mj_prog 56) 67 = some (.aload_n 0, 1, 0, 0) := by decide +kernel
theorem k56_68 : mj_look (mj_prog 56) 68 = some (.getfield 49, 3, 11, 3) := by decide +kernel
theorem k56_71 : mj_look (mj_prog 56) 71 = some (.getfield 145, 3, 6, 2) := by decide +kernel
theorem k56_74 : mj_look (mj_prog 56) 74 = some (.iload_n 2, 1, 0, 0) := by decide +kernel
theorem k56_75 : mj_look (mj_prog 56) 75 = some (.aaload, 1, 0, 0) := by decide +kernel
theorem k56_76 : mj_look (mj_prog 56) 76 = some (.iload_n 1, 1, 0, 0) := by decide +kernel
theorem k56_77 : mj_look (mj_prog 56) 77 = some (.iaload, 1, 0, 0) := by decide +kernel
theorem k56_78 : mj_look (mj_prog 56) 78 = some (.istore 5, 2, 0, 0) := by decide +kernel
theorem k56_80 : mj_look (mj_prog 56) 80 = some (.aload_n 0, 1, 0, 0) := by decide +kernel
theorem k56_81 : mj_look (mj_prog 56) 81 = some (.getfield 49, 3, 11, 3) := by decide +kernel
theorem k56_84 : mj_look (mj_prog 56) 84 = some (.getfield 145, 3, 6, 2) := by decide +kernel
theorem k56_87 : mj_look (mj_prog 56) 87 = some (.iload_n 2, 1, 0, 0) := by decide +kernel
theorem k56_88 : mj_look (mj_prog 56) 88 = some (.aaload, 1, 0, 0) := by decide +kernel
theorem k56_89 : mj_look (mj_prog 56) 89 = some (.iload_n 1, 1, 0, 0) := by decide +kernel
theorem k56_90 : mj_look (mj_prog 56) 90 = some (.iload_n 3, 1, 0, 0) := by decide +kernel
theorem k56_91 : mj_look (mj_prog 56) 91 = some (.iastore, 1, 0, 0) := by decide +kernel
theorem k56_92 : mj_look (mj_prog 56) 92 = some (.iload_n 2, 1, 0, 0) := by decide +kernel
theorem k56_93 : mj_look (mj_prog 56) 93 = some (.iconst 2, 1, 0, 0) := by decide +kernel
theorem k56_94 : mj_look (mj_prog 56) 94 = some (.if_icmp .ne 15, 3, 109, 0) := by decide +kernel
theorem k56_97 : mj_look (mj_prog 56) 97 = some (.aload_n 0, 1, 0, 0) := by decide +kernel
theorem k56_98 : mj_look (mj_prog 56) 98 = some (.getfield 49, 3, 11, 3) := by decide +kernel
theorem k56_101 : mj_look (mj_prog 56) 101 = some (.getfield 145, 3, 6, 2) := by decide +kernel
theorem k56_104 : mj_look (mj_prog 56) 104 = some (.iconst 3, 1, 0, 0) := by decide +kernel
theorem k56_105 : mj_look (mj_prog 56) 105 = some (.aaload, 1, 0, 0) := by decide +kernel
theorem k56_106 : mj_look (mj_prog 56) 106 = some (.iload_n 1, 1, 0, 0) := by decide +kernel
theorem k56_107 : mj_look (mj_prog 56) 107 = some (.iconst 0, 1, 0, 0) := by decide +kernel
theorem k56_108 : mj_look (mj_prog 56) 108 = some (.iastore, 1, 0, 0) := by decide +kernel
theorem k56_109 : mj_look (mj_prog 56) 109 = some (.iload 5, 2, 0, 0) := by decide +kernel
theorem k56_111 : mj_look (mj_prog 56) 111 = some (.ireturn, 1, 0, 0) := by decide +kernel
theorem mx_57 : (mj_m 57).2.2.1 = 3 := by decide +kernel
theorem rt_57 : (mj_m 57).2.2.2.1 = (some FieldType.int) := by decide +kernel
theorem dp_57 : mj_disp 57 11 = some 57 := by decide +kernel
theorem pq_57 : mj_prog 57 = mj_p57 := rfl
theorem k57_0 : mj_look (mj_prog 57) 0 = some (.iload_n 1, 1, 0, 0) := by decide +kernel
theorem k57_1 : mj_look (mj_prog 57) 1 = some (.iconst 1, 1, 0, 0) := by decide +kernel
theorem k57_2 : mj_look (mj_prog 57) 2 = some (.bipush 60, 2, 0, 0) := by decide +kernel
theorem k57_4 : mj_look (mj_prog 57) 4 = some (.invokestatic 141, 3, 16, 3) := by decide +kernel
theorem k57_7 : mj_look (mj_prog 57) 7 = some (.ifCond .ne 6, 3, 13, 0) := by decide +kernel
theorem k57_10 : mj_look (mj_prog 57) 10 = some (.ldc 96, 2, 3294967295, 0) := by decide +kernel
theorem k57_12 : mj_look (mj_prog 57) 12 = some (.ireturn, 1, 0, 0) := by decide +kernel
theorem k57_13 : mj_look (mj_prog 57) 13 = some (.aload_n 0, 1, 0, 0) := by decide +kernel
theorem k57_14 : mj_look (mj_prog 57) 14 = some (.getfield 49, 3, 11, 3) := by decide +kernel
theorem k57_17 : mj_look (mj_prog 57) 17 = some (.getfield 148, 3, 6, 6) := by decide +kernel
theorem k57_20 : mj_look (mj_prog 57) 20 = some (.istore_n 2, 1, 0, 0) := by decide +kernel
theorem k57_21 : mj_look (mj_prog 57) 21 = some (.aload_n 0, 1, 0, 0) := by decide +kernel
theorem k57_22 : mj_look (mj_prog 57) 22 = some (.getfield 49, 3, 11, 3) := by decide +kernel
theorem k57_25 : mj_look (mj_prog 57) 25 = some (.iload_n 1, 1, 0, 0) := by decide +kernel
theorem k57_26 : mj_look (mj_prog 57) 26 = some (.putfield 148, 3, 6, 6) := by decide +kernel
theorem k57_29 : mj_look (mj_prog 57) 29 = some (.iload_n 2, 1, 0, 0) := by decide +kernel
theorem k57_30 : mj_look (mj_prog 57) 30 = some (.ireturn, 1, 0, 0) := by decide +kernel
theorem mx_58 : (mj_m 58).2.2.1 = 7 := by decide +kernel
theorem rt_58 : (mj_m 58).2.2.2.1 = (some FieldType.int) := by decide +kernel
theorem dp_58 : mj_disp 58 11 = some 58 := by decide +kernel
theorem pq_58 : mj_prog 58 = mj_p58 := rfl
theorem k58_0 : mj_look (mj_prog 58) 0 = some (.iload_n 1, 1, 0, 0) := by decide +kernel
theorem k58_1 : mj_look (mj_prog 58) 1 = some (.iconst 1, 1, 0, 0) := by decide +kernel
theorem k58_2 : mj_look (mj_prog 58) 2 = some (.bipush 8, 2, 0, 0) := by decide +kernel
theorem k58_4 : mj_look (mj_prog 58) 4 = some (.invokestatic 141, 3, 16, 3) := by decide +kernel
theorem k58_7 : mj_look (mj_prog 58) 7 = some (.ifCond .ne 6, 3, 13, 0) := by decide +kernel
theorem k58_10 : mj_look (mj_prog 58) 10 = some (.ldc 96, 2, 3294967295, 0) := by decide +kernel
theorem k58_12 : mj_look (mj_prog 58) 12 = some (.ireturn, 1, 0, 0) := by decide +kernel
theorem k58_13 : mj_look (mj_prog 58) 13 = some (.iload_n 1, 1, 0, 0) := by decide +kernel
theorem k58_14 : mj_look (mj_prog 58) 14 = some (.bipush 8, 2, 0, 0) := by decide +kernel
theorem k58_16 : mj_look (mj_prog 58) 16 = some (.aload_n 0, 1, 0, 0) := by decide +kernel
theorem k58_17 : mj_look (mj_prog 58) 17 = some (.getfield 49, 3, 11, 3) := by decide +kernel
theorem k58_20 : mj_look (mj_prog 58) 20 = some (.getfield 97, 3, 6, 5) := by decide +kernel
theorem k58_23 : mj_look (mj_prog 58) 23 = some (.isub, 1, 0, 0) := by decide +kernel
theorem k58_24 : mj_look (mj_prog 58) 24 = some (.invokestatic 151, 3, 3006, 2) := by decide +kernel
theorem k58_27 : mj_look (mj_prog 58) 27 = some (.istore_n 2, 1, 0, 0) := by decide +kernel
theorem k58_28 : mj_look (mj_prog 58) 28 = some (.iconst 0, 1, 0, 0) := by decide +kernel
theorem k58_29 : mj_look (mj_prog 58) 29 = some (.istore_n 3, 1, 0, 0) := by decide +kernel
theorem k58_30 : mj_look (mj_prog 58) 30 = some (.iload_n 3, 1, 0, 0) := by decide +kernel
theorem k58_31 : mj_look (mj_prog 58) 31 = some (.iload_n 2, 1, 0, 0) := by decide +kernel
theorem k58_32 : mj_look (mj_prog 58) 32 = some (.if_icmp .ge 62, 3, 94, 0) := by decide +kernel
theorem k58_35 : mj_look (mj_prog 58) 35 = some (.aload_n 0, 1, 0, 0) := by decide +kernel
theorem k58_36 : mj_look (mj_prog 58) 36 = some (.getfield 49, 3, 11, 3) := by decide +kernel
theorem k58_39 : mj_look (mj_prog 58) 39 = some (.invokevirtual 156, 3, 59, 0) := by decide +kernel
theorem k58_42 : mj_look (mj_prog 58) 42 = some (.bipush 6, 2, 0, 0) := by decide +kernel
theorem k58_44 : mj_look (mj_prog 58) 44 = some (.irem, 1, 0, 0) := by decide +kernel
theorem k58_45 : mj_look (mj_prog 58) 45 = some (.istore 4, 2, 0, 0) := by decide +kernel
theorem k58_47 : mj_look (mj_prog 58) 47 = some (.aload_n 0, 1, 0, 0) := by decide +kernel
theorem k58_48 : mj_look (mj_prog 58) 48 = some (.getfield 49, 3, 11, 3) := by decide +kernel
theorem k58_51 : mj_look (mj_prog 58) 51 = some (.invokevirtual 156, 3, 59, 0) := by decide +kernel
theorem k58_54 : mj_look (mj_prog 58) 54 = some (.sipush 240, 3, 0, 0) := by decide +kernel
theorem k58_57 : mj_look (mj_prog 58) 57 = some (.irem, 1, 0, 0) := by decide +kernel
theorem k58_58 : mj_look (mj_prog 58) 58 = some (.istore 5, 2, 0, 0) := by decide +kernel
theorem k58_60 : mj_look (mj_prog 58) 60 = some (.iconst 1, 1, 0, 0) := by decide +kernel
theorem k58_61 : mj_look (mj_prog 58) 61 = some (.aload_n 0, 1, 0, 0) := by decide +kernel
theorem k58_62 : mj_look (mj_prog 58) 62 = some (.getfield 49, 3, 11, 3) := by decide +kernel
theorem k58_65 : mj_look (mj_prog 58) 65 = some (.invokevirtual 156, 3, 59, 0) := by decide +kernel
theorem k58_68 : mj_look (mj_prog 58) 68 = some (.bipush 99, 2, 0, 0) := by decide +kernel
theorem k58_70 : mj_look (mj_prog 58) 70 = some (.irem, 1, 0, 0) := by decide +kernel
theorem k58_71 : mj_look (mj_prog 58) 71 = some (.iadd, 1, 0, 0) := by decide +kernel
theorem k58_72 : mj_look (mj_prog 58) 72 = some (.istore 6, 2, 0, 0) := by decide +kernel
theorem k58_74 : mj_look (mj_prog 58) 74 = some (.aload_n 0, 1, 0, 0) := by decide +kernel
theorem k58_75 : mj_look (mj_prog 58) 75 = some (.getfield 49, 3, 11, 3) := by decide +kernel
theorem k58_78 : mj_look (mj_prog 58) 78 = some (.iload 4, 2, 0, 0) := by decide +kernel
theorem k58_80 : mj_look (mj_prog 58) 80 = some (.iload 5, 2, 0, 0) := by decide +kernel
theorem k58_82 : mj_look (mj_prog 58) 82 = some (.iload 6, 2, 0, 0) := by decide +kernel
theorem k58_84 : mj_look (mj_prog 58) 84 = some (.invokevirtual 101, 3, 17, 3) := by decide +kernel
theorem k58_87 : mj_look (mj_prog 58) 87 = some (.pop, 1, 0, 0) := by decide +kernel
theorem k58_88 : mj_look (mj_prog 58) 88 = some (.iinc 3 1, 3, 0, 0) := by decide +kernel
theorem k58_91 : mj_look (mj_prog 58) 91 = some (.goto (-61), 3, 30, 0) := by decide +kernel
theorem k58_94 : mj_look (mj_prog 58) 94 = some (.iload_n 2, 1, 0, 0) := by decide +kernel
theorem k58_95 : mj_look (mj_prog 58) 95 = some (.ireturn, 1, 0, 0) := by decide +kernel
theorem mx_59 : (mj_m 59).2.2.1 = 1 := by decide +kernel
theorem rt_59 : (mj_m 59).2.2.2.1 = (some FieldType.int) := by decide +kernel
theorem dp_59 : mj_disp 59 6 = some 59 := by decide +kernel
theorem pq_59 : mj_prog 59 = mj_p59 := rfl
theorem k59_0 : mj_look (mj_prog 59) 0 = some (.aload_n 0, 1, 0, 0) := by decide +kernel
theorem k59_1 : mj_look (mj_prog 59) 1 = some (.aload_n 0, 1, 0, 0) := by decide +kernel
theorem k59_2 : mj_look (mj_prog 59) 2 = some (.getfield 33, 3, 6, 8) := by decide +kernel
theorem k59_5 : mj_look (mj_prog 59) 5 = some (.ldc 53, 2, 1103515245, 0) := by decide +kernel
theorem k59_7 : mj_look (mj_prog 59) 7 = some (.imul, 1, 0, 0) := by decide +kernel
theorem k59_8 : mj_look (mj_prog 59) 8 = some (.sipush 12345, 3, 0, 0) := by decide +kernel
theorem k59_11 : mj_look (mj_prog 59) 11 = some (.iadd, 1, 0, 0) := by decide +kernel
theorem k59_12 : mj_look (mj_prog 59) 12 = some (.putfield 33, 3, 6, 8) := by decide +kernel
theorem k59_15 : mj_look (mj_prog 59) 15 = some (.aload_n 0, 1, 0, 0) := by decide +kernel
theorem k59_16 : mj_look (mj_prog 59) 16 = some (.getfield 33, 3, 6, 8) := by decide +kernel
theorem k59_19 : mj_look (mj_prog 59) 19 = some (.bipush 8, 2, 0, 0) := by decide +kernel
theorem k59_21 : mj_look (mj_prog 59) 21 = some (.iushr, 1, 0, 0) := by decide +kernel
theorem k59_22 : mj_look (mj_prog 59) 22 = some (.ireturn, 1, 0, 0) := by decide +kernel
theorem mx_60 : (mj_m 60).2.2.1 = 3 := by decide +kernel
theorem rt_60 : (mj_m 60).2.2.2.1 = (some FieldType.int) := by decide +kernel
theorem dp_60 : mj_disp 60 11 = some 60 := by decide +kernel
theorem pq_60 : mj_prog 60 = mj_p60 := rfl
theorem k60_0 : mj_look (mj_prog 60) 0 = some (.aload_n 0, 1, 0, 0) := by decide +kernel
theorem k60_1 : mj_look (mj_prog 60) 1 = some (.getfield 49, 3, 11, 3) := by decide +kernel
theorem k60_4 : mj_look (mj_prog 60) 4 = some (.getfield 159, 3, 6, 8) := by decide +kernel
theorem k60_7 : mj_look (mj_prog 60) 7 = some (.istore_n 2, 1, 0, 0) := by decide +kernel
theorem k60_8 : mj_look (mj_prog 60) 8 = some (.aload_n 0, 1, 0, 0) := by decide +kernel
theorem k60_9 : mj_look (mj_prog 60) 9 = some (.getfield 49, 3, 11, 3) := by decide +kernel
theorem k60_12 : mj_look (mj_prog 60) 12 = some (.iload_n 1, 1, 0, 0) := by decide +kernel
theorem k60_13 : mj_look (mj_prog 60) 13 = some (.putfield 159, 3, 6, 8) := by decide +kernel
theorem k60_16 : mj_look (mj_prog 60) 16 = some (.iload_n 2, 1, 0, 0) := by decide +kernel
theorem k60_17 : mj_look (mj_prog 60) 17 = some (.ireturn, 1, 0, 0) := by decide +kernel
theorem mx_61 : (mj_m 61).2.2.1 = 3 := by decide +kernel
theorem rt_61 : (mj_m 61).2.2.2.1 = (some FieldType.int) := by decide +kernel
theorem dp_61 : mj_disp 61 11 = some 61 := by decide +kernel
theorem pq_61 : mj_prog 61 = mj_p61 := rfl
theorem k61_0 : mj_look (mj_prog 61) 0 = some (.iload_n 1, 1, 0, 0) := by decide +kernel
theorem k61_1 : mj_look (mj_prog 61) 1 = some (.iconst 1, 1, 0, 0) := by decide +kernel
theorem k61_2 : mj_look (mj_prog 61) 2 = some (.sipush 300, 3, 0, 0) := by decide +kernel
theorem k61_5 : mj_look (mj_prog 61) 5 = some (.invokestatic 141, 3, 16, 3) := by decide +kernel
theorem k61_8 : mj_look (mj_prog 61) 8 = some (.ifCond .ne 6, 3, 14, 0) := by decide +kernel
theorem k61_11 : mj_look (mj_prog 61) 11 = some (.ldc 96, 2, 3294967295, 0) := by decide +kernel
theorem k61_13 : mj_look (mj_prog 61) 13 = some (.ireturn, 1, 0, 0) := by decide +kernel
theorem k61_14 : mj_look (mj_prog 61) 14 = some (.aload_n 0, 1, 0, 0) := by decide +kernel
theorem k61_15 : mj_look (mj_prog 61) 15 = some (.getfield 49, 3, 11, 3) := by decide +kernel
theorem k61_18 : mj_look (mj_prog 61) 18 = some (.iconst 3, 1, 0, 0) := by decide +kernel
theorem k61_19 : mj_look (mj_prog 61) 19 = some (.invokevirtual 162, 3, 62, 1) := by decide +kernel
theorem k61_22 : mj_look (mj_prog 61) 22 = some (.istore_n 2, 1, 0, 0) := by decide +kernel
theorem k61_23 : mj_look (mj_prog 61) 23 = some (.aload_n 0, 1, 0, 0) := by decide +kernel
theorem k61_24 : mj_look (mj_prog 61) 24 = some (.getfield 49, 3, 11, 3) := by decide +kernel
theorem k61_27 : mj_look (mj_prog 61) 27 = some (.iload_n 1, 1, 0, 0) := by decide +kernel
theorem k61_28 : mj_look (mj_prog 61) 28 = some (.sipush 9999, 3, 0, 0) := by decide +kernel
theorem k61_31 : mj_look (mj_prog 61) 31 = some (.aload_n 0, 1, 0, 0) := by decide +kernel
theorem k61_32 : mj_look (mj_prog 61) 32 = some (.getfield 49, 3, 11, 3) := by decide +kernel
theorem k61_35 : mj_look (mj_prog 61) 35 = some (.getfield 165, 3, 6, 7) := by decide +kernel
theorem k61_38 : mj_look (mj_prog 61) 38 = some (.isub, 1, 0, 0) := by decide +kernel
theorem k61_39 : mj_look (mj_prog 61) 39 = some (.invokestatic 151, 3, 3006, 2) := by decide +kernel
theorem k61_42 : mj_look (mj_prog 61) 42 = some (.invokevirtual 168, 3, 63, 1) := by decide +kernel
theorem k61_45 : mj_look (mj_prog 61) 45 = some (.aload_n 0, 1, 0, 0) := by decide +kernel
theorem k61_46 : mj_look (mj_prog 61) 46 = some (.getfield 49, 3, 11, 3) := by decide +kernel
theorem k61_49 : mj_look (mj_prog 61) 49 = some (.iconst 3, 1, 0, 0) := by decide +kernel
theorem k61_50 : mj_look (mj_prog 61) 50 = some (.invokevirtual 162, 3, 62, 1) := by decide +kernel
theorem k61_53 : mj_look (mj_prog 61) 53 = some (.iload_n 2, 1, 0, 0) := by decide +kernel
theorem k61_54 : mj_look (mj_prog 61) 54 = some (.isub, 1, 0, 0) := by decide +kernel
theorem k61_55 : mj_look (mj_prog 61) 55 = some (.ireturn, 1, 0, 0) := by decide +kernel
theorem mx_62 : (mj_m 62).2.2.1 = 4 := by decide +kernel
theorem rt_62 : (mj_m 62).2.2.2.1 = (some FieldType.int) := by decide +kernel
theorem dp_62 : mj_disp 62 6 = some 62 := by decide +kernel
theorem pq_62 : mj_prog 62 = mj_p62 := rfl
theorem k62_0 : mj_look (mj_prog 62) 0 = some (.iconst 0, 1, 0, 0) := by decide +kernel
theorem k62_1 : mj_look (mj_prog 62) 1 = some (.istore_n 2, 1, 0, 0) := by decide +kernel
theorem k62_2 : mj_look (mj_prog 62) 2 = some (.iconst 0, 1, 0, 0) := by decide +kernel
theorem k62_3 : mj_look (mj_prog 62) 3 = some (.istore_n 3, 1, 0, 0) := by decide +kernel
theorem k62_4 : mj_look (mj_prog 62) 4 = some (.iload_n 3, 1, 0, 0) := by decide +kernel
theorem k62_5 : mj_look (mj_prog 62) 5 = some (.aload_n 0, 1, 0, 0) := by decide +kernel
theorem k62_6 : mj_look (mj_prog 62) 6 = some (.getfield 23, 3, 6, 5) := by decide +kernel
theorem k62_9 : mj_look (mj_prog 62) 9 = some (.if_icmp .ge 20, 3, 29, 0) := by decide +kernel
theorem k62_12 : mj_look (mj_prog 62) 12 = some (.iload_n 2, 1, 0, 0) := by decide +kernel
theorem k62_13 : mj_look (mj_prog 62) 13 = some (.aload_n 0, 1, 0, 0) := by decide +kernel
theorem k62_14 : mj_look (mj_prog 62) 14 = some (.getfield 16, 3, 6, 3) := by decide +kernel
theorem k62_17 : mj_look (mj_prog 62) 17 = some (.iload_n 1, 1, 0, 0) := by decide +kernel
theorem k62_18 : mj_look (mj_prog 62) 18 = some (.aaload, 1, 0, 0) := by decide +kernel
theorem k62_19 : mj_look (mj_prog 62) 19 = some (.iload_n 3, 1, 0, 0) := by decide +kernel
theorem k62_20 : mj_look (mj_prog 62) 20 = some (.iaload, 1, 0, 0) := by decide +kernel
theorem k62_21 : mj_look (mj_prog 62) 21 = some (.iadd, 1, 0, 0) := by decide +kernel
theorem k62_22 : mj_look (mj_prog 62) 22 = some (.istore_n 2, 1, 0, 0) := by decide +kernel
theorem k62_23 : mj_look (mj_prog 62) 23 = some (.iinc 3 1, 3, 0, 0) := by decide +kernel
theorem k62_26 : mj_look (mj_prog 62) 26 = some (.goto (-22), 3, 4, 0) := by decide +kernel
theorem k62_29 : mj_look (mj_prog 62) 29 = some (.iload_n 2, 1, 0, 0) := by decide +kernel
theorem k62_30 : mj_look (mj_prog 62) 30 = some (.ireturn, 1, 0, 0) := by decide +kernel
theorem mx_63 : (mj_m 63).2.2.1 = 4 := by decide +kernel
theorem rt_63 : (mj_m 63).2.2.2.1 = none := by decide +kernel
theorem dp_63 : mj_disp 63 6 = some 63 := by decide +kernel
theorem pq_63 : mj_prog 63 = mj_p63 := rfl
theorem k63_0 : mj_look (mj_prog 63) 0 = some (.iconst 0, 1, 0, 0) := by decide +kernel
theorem k63_1 : mj_look (mj_prog 63) 1 = some (.istore_n 2, 1, 0, 0) := by decide +kernel
theorem k63_2 : mj_look (mj_prog 63) 2 = some (.iload_n 2, 1, 0, 0) := by decide +kernel
theorem k63_3 : mj_look (mj_prog 63) 3 = some (.iload_n 1, 1, 0, 0) := by decide +kernel
theorem k63_4 : mj_look (mj_prog 63) 4 = some (.if_icmp .ge 76, 3, 80, 0) := by decide +kernel
theorem k63_7 : mj_look (mj_prog 63) 7 = some (.iconst 0, 1, 0, 0) := by decide +kernel
theorem k63_8 : mj_look (mj_prog 63) 8 = some (.istore_n 3, 1, 0, 0) := by decide +kernel
theorem k63_9 : mj_look (mj_prog 63) 9 = some (.iload_n 3, 1, 0, 0) := by decide +kernel
theorem k63_10 : mj_look (mj_prog 63) 10 = some (.bipush 12, 2, 0, 0) := by decide +kernel
theorem k63_12 : mj_look (mj_prog 63) 12 = some (.if_icmp .ge 31, 3, 43, 0) := by decide +kernel
theorem k63_15 : mj_look (mj_prog 63) 15 = some (.aload_n 0, 1, 0, 0) := by decide +kernel
theorem k63_16 : mj_look (mj_prog 63) 16 = some (.getfield 11, 3, 6, 2) := by decide +kernel
theorem k63_19 : mj_look (mj_prog 63) 19 = some (.iconst 3, 1, 0, 0) := by decide +kernel
theorem k63_20 : mj_look (mj_prog 63) 20 = some (.aaload, 1, 0, 0) := by decide +kernel
theorem k63_21 : mj_look (mj_prog 63) 21 = some (.iload_n 3, 1, 0, 0) := by decide +kernel
theorem k63_22 : mj_look (mj_prog 63) 22 = some (.iconst 0, 1, 0, 0) := by decide +kernel
theorem k63_23 : mj_look (mj_prog 63) 23 = some (.aload_n 0, 1, 0, 0) := by decide +kernel
theorem k63_24 : mj_look (mj_prog 63) 24 = some (.getfield 11, 3, 6, 2) := by decide +kernel
theorem k63_27 : mj_look (mj_prog 63) 27 = some (.iconst 3, 1, 0, 0) := by decide +kernel
theorem k63_28 : mj_look (mj_prog 63) 28 = some (.aaload, 1, 0, 0) := by decide +kernel
theorem k63_29 : mj_look (mj_prog 63) 29 = some (.iload_n 3, 1, 0, 0) := by decide +kernel
theorem k63_30 : mj_look (mj_prog 63) 30 = some (.iaload, 1, 0, 0) := by decide +kernel
theorem k63_31 : mj_look (mj_prog 63) 31 = some (.iconst 1, 1, 0, 0) := by decide +kernel
theorem k63_32 : mj_look (mj_prog 63) 32 = some (.isub, 1, 0, 0) := by decide +kernel
theorem k63_33 : mj_look (mj_prog 63) 33 = some (.invokestatic 54, 3, 3005, 2) := by decide +kernel
theorem k63_36 : mj_look (mj_prog 63) 36 = some (.iastore, 1, 0, 0) := by decide +kernel
theorem k63_37 : mj_look (mj_prog 63) 37 = some (.iinc 3 1, 3, 0, 0) := by decide +kernel
theorem k63_40 : mj_look (mj_prog 63) 40 = some (.goto (-31), 3, 9, 0) := by decide +kernel
theorem k63_43 : mj_look (mj_prog 63) 43 = some (.iconst 0, 1, 0, 0) := by decide +kernel
theorem k63_44 : mj_look (mj_prog 63) 44 = some (.istore_n 3, 1, 0, 0) := by decide +kernel
theorem k63_45 : mj_look (mj_prog 63) 45 = some (.iload_n 3, 1, 0, 0) := by decide +kernel
theorem k63_46 : mj_look (mj_prog 63) 46 = some (.aload_n 0, 1, 0, 0) := by decide +kernel
theorem k63_47 : mj_look (mj_prog 63) 47 = some (.getfield 23, 3, 6, 5) := by decide +kernel
theorem k63_50 : mj_look (mj_prog 63) 50 = some (.if_icmp .ge 14, 3, 64, 0) := by decide +kernel
theorem k63_53 : mj_look (mj_prog 63) 53 = some (.aload_n 0, 1, 0, 0) := by decide +kernel
theorem k63_54 : mj_look (mj_prog 63) 54 = some (.iload_n 3, 1, 0, 0) := by decide +kernel
theorem k63_55 : mj_look (mj_prog 63) 55 = some (.invokevirtual 60, 3, 64, 1) := by decide +kernel
theorem k63_58 : mj_look (mj_prog 63) 58 = some (.iinc 3 1, 3, 0, 0) := by decide +kernel
theorem k63_61 : mj_look (mj_prog 63) 61 = some (.goto (-16), 3, 45, 0) := by decide +kernel
theorem k63_64 : mj_look (mj_prog 63) 64 = some (.aload_n 0, 1, 0, 0) := by decide +kernel
theorem k63_65 : mj_look (mj_prog 63) 65 = some (.dup, 1, 0, 0) := by decide +kernel
theorem k63_66 : mj_look (mj_prog 63) 66 = some (.getfield 30, 3, 6, 7) := by decide +kernel
theorem k63_69 : mj_look (mj_prog 63) 69 = some (.iconst 1, 1, 0, 0) := by decide +kernel
theorem k63_70 : mj_look (mj_prog 63) 70 = some (.iadd, 1, 0, 0) := by decide +kernel
theorem k63_71 : mj_look (mj_prog 63) 71 = some (.putfield 30, 3, 6, 7) := by decide +kernel
theorem k63_74 : mj_look (mj_prog 63) 74 = some (.iinc 2 1, 3, 0, 0) := by decide +kernel
theorem k63_77 : mj_look (mj_prog 63) 77 = some (.goto (-75), 3, 2, 0) := by decide +kernel
theorem k63_80 : mj_look (mj_prog 63) 80 = some (.return_, 1, 0, 0) := by decide +kernel
theorem mx_64 : (mj_m 64).2.2.1 = 5 := by decide +kernel
theorem rt_64 : (mj_m 64).2.2.2.1 = none := by decide +kernel
theorem dp_64 : mj_disp 64 6 = some 64 := by decide +kernel
theorem pq_64 : mj_prog 64 = mj_p64 := rfl
theorem k64_0 : mj_look (mj_prog 64) 0 = some (.aload_n 0, 1, 0, 0) := by decide +kernel
theorem k64_1 : mj_look (mj_prog 64) 1 = some (.getfield 16, 3, 6, 3) := by decide +kernel
theorem k64_4 : mj_look (mj_prog 64) 4 = some (.iconst 1, 1, 0, 0) := by decide +kernel
theorem k64_5 : mj_look (mj_prog 64) 5 = some (.aaload, 1, 0, 0) := by decide +kernel
theorem k64_6 : mj_look (mj_prog 64) 6 = some (.iload_n 1, 1, 0, 0) := by decide +kernel
theorem k64_7 : mj_look (mj_prog 64) 7 = some (.iaload, 1, 0, 0) := by decide +kernel
theorem k64_8 : mj_look (mj_prog 64) 8 = some (.istore_n 2, 1, 0, 0) := by decide +kernel
theorem k64_9 : mj_look (mj_prog 64) 9 = some (.iconst 0, 1, 0, 0) := by decide +kernel
theorem k64_10 : mj_look (mj_prog 64) 10 = some (.aload_n 0, 1, 0, 0) := by decide +kernel
theorem k64_11 : mj_look (mj_prog 64) 11 = some (.iload_n 1, 1, 0, 0) := by decide +kernel
theorem k64_12 : mj_look (mj_prog 64) 12 = some (.invokevirtual 64, 3, 32, 1) := by decide +kernel
theorem k64_15 : mj_look (mj_prog 64) 15 = some (.aload_n 0, 1, 0, 0) := by decide +kernel
theorem k64_16 : mj_look (mj_prog 64) 16 = some (.iload_n 1, 1, 0, 0) := by decide +kernel
theorem k64_17 : mj_look (mj_prog 64) 17 = some (.aload_n 0, 1, 0, 0) := by decide +kernel
theorem k64_18 : mj_look (mj_prog 64) 18 = some (.iload_n 1, 1, 0, 0) := by decide +kernel
theorem k64_19 : mj_look (mj_prog 64) 19 = some (.invokevirtual 68, 3, 20, 1) := by decide +kernel
theorem k64_22 : mj_look (mj_prog 64) 22 = some (.invokevirtual 71, 3, 21, 2) := by decide +kernel
theorem k64_25 : mj_look (mj_prog 64) 25 = some (.invokestatic 74, 3, 3006, 2) := by decide +kernel
theorem k64_28 : mj_look (mj_prog 64) 28 = some (.invokestatic 54, 3, 3005, 2) := by decide +kernel
theorem k64_31 : mj_look (mj_prog 64) 31 = some (.istore_n 3, 1, 0, 0) := by decide +kernel
theorem k64_32 : mj_look (mj_prog 64) 32 = some (.iload_n 3, 1, 0, 0) := by decide +kernel
theorem k64_33 : mj_look (mj_prog 64) 33 = some (.ifCond .ne 15, 3, 48, 0) := by decide +kernel
theorem k64_36 : mj_look (mj_prog 64) 36 = some (.aload_n 0, 1, 0, 0) := by decide +kernel
theorem k64_37 : mj_look (mj_prog 64) 37 = some (.getfield 16, 3, 6, 3) := by decide +kernel
theorem k64_40 : mj_look (mj_prog 64) 40 = some (.iconst 5, 1, 0, 0) := by decide +kernel
theorem k64_41 : mj_look (mj_prog 64) 41 = some (.aaload, 1, 0, 0) := by decide +kernel
theorem k64_42 : mj_look (mj_prog 64) 42 = some (.iload_n 1, 1, 0, 0) := by decide +kernel
theorem k64_43 : mj_look (mj_prog 64) 43 = some (.dup2, 1, 0, 0) := by decide +kernel
theorem k64_44 : mj_look (mj_prog 64) 44 = some (.iaload, 1, 0, 0) := by decide +kernel
theorem k64_45 : mj_look (mj_prog 64) 45 = some (.iconst 1, 1, 0, 0) := by decide +kernel
theorem k64_46 : mj_look (mj_prog 64) 46 = some (.iadd, 1, 0, 0) := by decide +kernel
theorem k64_47 : mj_look (mj_prog 64) 47 = some (.iastore, 1, 0, 0) := by decide +kernel
theorem k64_48 : mj_look (mj_prog 64) 48 = some (.iload_n 2, 1, 0, 0) := by decide +kernel
theorem k64_49 : mj_look (mj_prog 64) 49 = some (.iload_n 3, 1, 0, 0) := by decide +kernel
theorem k64_50 : mj_look (mj_prog 64) 50 = some (.iadd, 1, 0, 0) := by decide +kernel
theorem k64_51 : mj_look (mj_prog 64) 51 = some (.sipush 240, 3, 0, 0) := by decide +kernel
theorem k64_54 : mj_look (mj_prog 64) 54 = some (.if_icmp .lt 16, 3, 70, 0) := by decide +kernel
theorem k64_57 : mj_look (mj_prog 64) 57 = some (.aload_n 0, 1, 0, 0) := by decide +kernel
theorem k64_58 : mj_look (mj_prog 64) 58 = some (.getfield 16, 3, 6, 3) := by decide +kernel
theorem k64_61 : mj_look (mj_prog 64) 61 = some (.bipush 6, 2, 0, 0) := by decide +kernel
theorem k64_63 : mj_look (mj_prog 64) 63 = some (.aaload, 1, 0, 0) := by decide +kernel
theorem k64_64 : mj_look (mj_prog 64) 64 = some (.iload_n 1, 1, 0, 0) := by decide +kernel
theorem k64_65 : mj_look (mj_prog 64) 65 = some (.dup2, 1, 0, 0) := by decide +kernel
theorem k64_66 : mj_look (mj_prog 64) 66 = some (.iaload, 1, 0, 0) := by decide +kernel
theorem k64_67 : mj_look (mj_prog 64) 67 = some (.iconst 1, 1, 0, 0) := by decide +kernel
theorem k64_68 : mj_look (mj_prog 64) 68 = some (.iadd, 1, 0, 0) := by decide +kernel
theorem k64_69 : mj_look (mj_prog 64) 69 = some (.iastore, 1, 0, 0) := by decide +kernel
theorem k64_70 : mj_look (mj_prog 64) 70 = some (.aload_n 0, 1, 0, 0) := by decide +kernel
theorem k64_71 : mj_look (mj_prog 64) 71 = some (.getfield 16, 3, 6, 3) := by decide +kernel
theorem k64_74 : mj_look (mj_prog 64) 74 = some (.iconst 1, 1, 0, 0) := by decide +kernel
theorem k64_75 : mj_look (mj_prog 64) 75 = some (.aaload, 1, 0, 0) := by decide +kernel
theorem k64_76 : mj_look (mj_prog 64) 76 = some (.iload_n 1, 1, 0, 0) := by decide +kernel
theorem k64_77 : mj_look (mj_prog 64) 77 = some (.iload_n 2, 1, 0, 0) := by decide +kernel
theorem k64_78 : mj_look (mj_prog 64) 78 = some (.iload_n 3, 1, 0, 0) := by decide +kernel
theorem k64_79 : mj_look (mj_prog 64) 79 = some (.iadd, 1, 0, 0) := by decide +kernel
theorem k64_80 : mj_look (mj_prog 64) 80 = some (.sipush 240, 3, 0, 0) := by decide +kernel
theorem k64_83 : mj_look (mj_prog 64) 83 = some (.irem, 1, 0, 0) := by decide +kernel
theorem k64_84 : mj_look (mj_prog 64) 84 = some (.iastore, 1, 0, 0) := by decide +kernel
theorem k64_85 : mj_look (mj_prog 64) 85 = some (.iload_n 2, 1, 0, 0) := by decide +kernel
theorem k64_86 : mj_look (mj_prog 64) 86 = some (.bipush 20, 2, 0, 0) := by decide +kernel
theorem k64_88 : mj_look (mj_prog 64) 88 = some (.idiv, 1, 0, 0) := by decide +kernel
theorem k64_89 : mj_look (mj_prog 64) 89 = some (.iconst 1, 1, 0, 0) := by decide +kernel
theorem k64_90 : mj_look (mj_prog 64) 90 = some (.iadd, 1, 0, 0) := by decide +kernel
theorem k64_91 : mj_look (mj_prog 64) 91 = some (.istore 4, 2, 0, 0) := by decide +kernel
theorem k64_93 : mj_look (mj_prog 64) 93 = some (.iload 4, 2, 0, 0) := by decide +kernel
theorem k64_95 : mj_look (mj_prog 64) 95 = some (.iload_n 2, 1, 0, 0) := by decide +kernel
theorem k64_96 : mj_look (mj_prog 64) 96 = some (.iload_n 3, 1, 0, 0) := by decide +kernel
theorem k64_97 : mj_look (mj_prog 64) 97 = some (.iadd, 1, 0, 0) := by decide +kernel
theorem k64_98 : mj_look (mj_prog 64) 98 = some (.bipush 20, 2, 0, 0) := by decide +kernel
theorem k64_100 : mj_look (mj_prog 64) 100 = some (.idiv, 1, 0, 0) := by decide +kernel
theorem k64_101 : mj_look (mj_prog 64) 101 = some (.if_icmp .gt 19, 3, 120, 0) := by decide +kernel
theorem k64_104 : mj_look (mj_prog 64) 104 = some (.aload_n 0, 1, 0, 0) := by decide +kernel
theorem k64_105 : mj_look (mj_prog 64) 105 = some (.iload_n 1, 1, 0, 0) := by decide +kernel
theorem k64_106 : mj_look (mj_prog 64) 106 = some (.iload 4, 2, 0, 0) := by decide +kernel
theorem k64_108 : mj_look (mj_prog 64) 108 = some (.bipush 12, 2, 0, 0) := by decide +kernel
theorem k64_110 : mj_look (mj_prog 64) 110 = some (.irem, 1, 0, 0) := by decide +kernel
theorem k64_111 : mj_look (mj_prog 64) 111 = some (.invokevirtual 77, 3, 65, 2) := by decide +kernel
theorem k64_114 : mj_look (mj_prog 64) 114 = some (.iinc 4 1, 3, 0, 0) := by decide +kernel
theorem k64_117 : mj_look (mj_prog 64) 117 = some (.goto (-24), 3, 93, 0) := by decide +kernel
theorem k64_120 : mj_look (mj_prog 64) 120 = some (.return_, 1, 0, 0) := by decide +kernel
theorem mx_65 : (mj_m 65).2.2.1 = 3 := by decide +kernel
theorem rt_65 : (mj_m 65).2.2.2.1 = none := by decide +kernel
theorem dp_65 : mj_disp 65 6 = some 65 := by decide +kernel
theorem pq_65 : mj_prog 65 = mj_p65 := rfl
theorem k65_0 : mj_look (mj_prog 65) 0 = some (.aload_n 0, 1, 0, 0) := by decide +kernel
theorem k65_1 : mj_look (mj_prog 65) 1 = some (.getfield 11, 3, 6, 2) := by decide +kernel
theorem k65_4 : mj_look (mj_prog 65) 4 = some (.iconst 2, 1, 0, 0) := by decide +kernel
theorem k65_5 : mj_look (mj_prog 65) 5 = some (.aaload, 1, 0, 0) := by decide +kernel
theorem k65_6 : mj_look (mj_prog 65) 6 = some (.iload_n 2, 1, 0, 0) := by decide +kernel
theorem k65_7 : mj_look (mj_prog 65) 7 = some (.iaload, 1, 0, 0) := by decide +kernel
theorem k65_8 : mj_look (mj_prog 65) 8 = some (.ifCond .ne 4, 3, 12, 0) := by decide +kernel
theorem k65_11 : mj_look (mj_prog 65) 11 = some (.return_, 1, 0, 0) := by decide +kernel
theorem k65_12 : mj_look (mj_prog 65) 12 = some (.aload_n 0, 1, 0, 0) := by decide +kernel
theorem k65_13 : mj_look (mj_prog 65) 13 = some (.getfield 11, 3, 6, 2) := by decide +kernel
theorem k65_16 : mj_look (mj_prog 65) 16 = some (.iconst 3, 1, 0, 0) := by decide +kernel
theorem k65_17 : mj_look (mj_prog 65) 17 = some (.aaload, 1, 0, 0) := by decide +kernel
theorem k65_18 : mj_look (mj_prog 65) 18 = some (.iload_n 2, 1, 0, 0) := by decide +kernel
theorem k65_19 : mj_look (mj_prog 65) 19 = some (.iaload, 1, 0, 0) := by decide +kernel
theorem k65_20 : mj_look (mj_prog 65) 20 = some (.ifCond .ne 41, 3, 61, 0) := by decide +kernel
theorem k65_23 : mj_look (mj_prog 65) 23 = some (.aload_n 0, 1, 0, 0) := by decide +kernel
theorem k65_24 : mj_look (mj_prog 65) 24 = some (.getfield 16, 3, 6, 3) := by decide +kernel
theorem k65_27 : mj_look (mj_prog 65) 27 = some (.iconst 3, 1, 0, 0) := by decide +kernel
theorem k65_28 : mj_look (mj_prog 65) 28 = some (.aaload, 1, 0, 0) := by decide +kernel
theorem k65_29 : mj_look (mj_prog 65) 29 = some (.iload_n 1, 1, 0, 0) := by decide +kernel
theorem k65_30 : mj_look (mj_prog 65) 30 = some (.dup2, 1, 0, 0) := by decide +kernel
theorem k65_31 : mj_look (mj_prog 65) 31 = some (.iaload, 1, 0, 0) := by decide +kernel
theorem k65_32 : mj_look (mj_prog 65) 32 = some (.aload_n 0, 1, 0, 0) := by decide +kernel
theorem k65_33 : mj_look (mj_prog 65) 33 = some (.iload_n 1, 1, 0, 0) := by decide +kernel
theorem k65_34 : mj_look (mj_prog 65) 34 = some (.invokevirtual 81, 3, 24, 1) := by decide +kernel
theorem k65_37 : mj_look (mj_prog 65) 37 = some (.invokevirtual 85, 3, 1002, 0) := by decide +kernel
theorem k65_40 : mj_look (mj_prog 65) 40 = some (.iadd, 1, 0, 0) := by decide +kernel
theorem k65_41 : mj_look (mj_prog 65) 41 = some (.iastore, 1, 0, 0) := by decide +kernel
theorem k65_42 : mj_look (mj_prog 65) 42 = some (.aload_n 0, 1, 0, 0) := by decide +kernel
theorem k65_43 : mj_look (mj_prog 65) 43 = some (.getfield 11, 3, 6, 2) := by decide +kernel
theorem k65_46 : mj_look (mj_prog 65) 46 = some (.iconst 3, 1, 0, 0) := by decide +kernel
theorem k65_47 : mj_look (mj_prog 65) 47 = some (.aaload, 1, 0, 0) := by decide +kernel
theorem k65_48 : mj_look (mj_prog 65) 48 = some (.iload_n 2, 1, 0, 0) := by decide +kernel
theorem k65_49 : mj_look (mj_prog 65) 49 = some (.aload_n 0, 1, 0, 0) := by decide +kernel
theorem k65_50 : mj_look (mj_prog 65) 50 = some (.getfield 11, 3, 6, 2) := by decide +kernel
theorem k65_53 : mj_look (mj_prog 65) 53 = some (.iconst 2, 1, 0, 0) := by decide +kernel
theorem k65_54 : mj_look (mj_prog 65) 54 = some (.aaload, 1, 0, 0) := by decide +kernel
theorem k65_55 : mj_look (mj_prog 65) 55 = some (.iload_n 2, 1, 0, 0) := by decide +kernel
theorem k65_56 : mj_look (mj_prog 65) 56 = some (.iaload, 1, 0, 0) := by decide +kernel
theorem k65_57 : mj_look (mj_prog 65) 57 = some (.iastore, 1, 0, 0) := by decide +kernel
theorem k65_58 : mj_look (mj_prog 65) 58 = some (.goto 15, 3, 73, 0) := by decide +kernel
theorem k65_61 : mj_look (mj_prog 65) 61 = some (.aload_n 0, 1, 0, 0) := by decide +kernel
theorem k65_62 : mj_look (mj_prog 65) 62 = some (.getfield 16, 3, 6, 3) := by decide +kernel
theorem k65_65 : mj_look (mj_prog 65) 65 = some (.iconst 4, 1, 0, 0) := by decide +kernel
theorem k65_66 : mj_look (mj_prog 65) 66 = some (.aaload, 1, 0, 0) := by decide +kernel
theorem k65_67 : mj_look (mj_prog 65) 67 = some (.iload_n 1, 1, 0, 0) := by decide +kernel
theorem k65_68 : mj_look (mj_prog 65) 68 = some (.dup2, 1, 0, 0) := by decide +kernel
theorem k65_69 : mj_look (mj_prog 65) 69 = some (.iaload, 1, 0, 0) := by decide +kernel
theorem k65_70 : mj_look (mj_prog 65) 70 = some (.iconst 1, 1, 0, 0) := by decide +kernel
theorem k65_71 : mj_look (mj_prog 65) 71 = some (.iadd, 1, 0, 0) := by decide +kernel
theorem k65_72 : mj_look (mj_prog 65) 72 = some (.iastore, 1, 0, 0) := by decide +kernel
theorem k65_73 : mj_look (mj_prog 65) 73 = some (.return_, 1, 0, 0) := by decide +kernel
theorem mx_66 : (mj_m 66).2.2.1 = 2 := by decide +kernel
theorem rt_66 : (mj_m 66).2.2.2.1 = (some FieldType.int) := by decide +kernel
theorem dp_66 : mj_disp 66 11 = some 66 := by decide +kernel
theorem pq_66 : mj_prog 66 = mj_p66 := rfl
theorem k66_0 : mj_look (mj_prog 66) 0 = some (.iload_n 1, 1, 0, 0) := by decide +kernel
theorem k66_1 : mj_look (mj_prog 66) 1 = some (.tableswitch 93 0 5 #[39, 48, 57, 66, 76, 85], 39, 0, 0) := by decide +kernel
theorem k66_40 : mj_look (mj_prog 66) 40 = some (.aload_n 0, 1, 0, 0) := by decide +kernel
theorem k66_41 : mj_look (mj_prog 66) 41 = some (.getfield 49, 3, 11, 3) := by decide +kernel
theorem k66_44 : mj_look (mj_prog 66) 44 = some (.iconst 3, 1, 0, 0) := by decide +kernel
theorem k66_45 : mj_look (mj_prog 66) 45 = some (.invokevirtual 162, 3, 62, 1) := by decide +kernel
theorem k66_48 : mj_look (mj_prog 66) 48 = some (.ireturn, 1, 0, 0) := by decide +kernel
theorem k66_49 : mj_look (mj_prog 66) 49 = some (.aload_n 0, 1, 0, 0) := by decide +kernel
theorem k66_50 : mj_look (mj_prog 66) 50 = some (.getfield 49, 3, 11, 3) := by decide +kernel
theorem k66_53 : mj_look (mj_prog 66) 53 = some (.iconst 4, 1, 0, 0) := by decide +kernel
theorem k66_54 : mj_look (mj_prog 66) 54 = some (.invokevirtual 162, 3, 62, 1) := by decide +kernel
theorem k66_57 : mj_look (mj_prog 66) 57 = some (.ireturn, 1, 0, 0) := by decide +kernel
theorem k66_58 : mj_look (mj_prog 66) 58 = some (.aload_n 0, 1, 0, 0) := by decide +kernel
theorem k66_59 : mj_look (mj_prog 66) 59 = some (.getfield 49, 3, 11, 3) := by decide +kernel
theorem k66_62 : mj_look (mj_prog 66) 62 = some (.iconst 5, 1, 0, 0) := by decide +kernel
theorem k66_63 : mj_look (mj_prog 66) 63 = some (.invokevirtual 162, 3, 62, 1) := by decide +kernel
theorem k66_66 : mj_look (mj_prog 66) 66 = some (.ireturn, 1, 0, 0) := by decide +kernel
theorem k66_67 : mj_look (mj_prog 66) 67 = some (.aload_n 0, 1, 0, 0) := by decide +kernel
theorem k66_68 : mj_look (mj_prog 66) 68 = some (.getfield 49, 3, 11, 3) := by decide +kernel
theorem k66_71 : mj_look (mj_prog 66) 71 = some (.bipush 6, 2, 0, 0) := by decide +kernel
theorem k66_73 : mj_look (mj_prog 66) 73 = some (.invokevirtual 162, 3, 62, 1) := by decide +kernel
theorem k66_76 : mj_look (mj_prog 66) 76 = some (.ireturn, 1, 0, 0) := by decide +kernel
theorem k66_77 : mj_look (mj_prog 66) 77 = some (.aload_n 0, 1, 0, 0) := by decide +kernel
theorem k66_78 : mj_look (mj_prog 66) 78 = some (.getfield 49, 3, 11, 3) := by decide +kernel
theorem k66_81 : mj_look (mj_prog 66) 81 = some (.iconst 1, 1, 0, 0) := by decide +kernel
theorem k66_82 : mj_look (mj_prog 66) 82 = some (.invokevirtual 162, 3, 62, 1) := by decide +kernel
theorem k66_85 : mj_look (mj_prog 66) 85 = some (.ireturn, 1, 0, 0) := by decide +kernel
theorem k66_86 : mj_look (mj_prog 66) 86 = some (.aload_n 0, 1, 0, 0) := by decide +kernel
theorem k66_87 : mj_look (mj_prog 66) 87 = some (.getfield 49, 3, 11, 3) := by decide +kernel
theorem k66_90 : mj_look (mj_prog 66) 90 = some (.invokevirtual 172, 3, 67, 0) := by decide +kernel
theorem k66_93 : mj_look (mj_prog 66) 93 = some (.ireturn, 1, 0, 0) := by decide +kernel
theorem k66_94 : mj_look (mj_prog 66) 94 = some (.ldc 96, 2, 3294967295, 0) := by decide +kernel
theorem k66_96 : mj_look (mj_prog 66) 96 = some (.ireturn, 1, 0, 0) := by decide +kernel
theorem mx_67 : (mj_m 67).2.2.1 = 3 := by decide +kernel
theorem rt_67 : (mj_m 67).2.2.2.1 = (some FieldType.int) := by decide +kernel
theorem dp_67 : mj_disp 67 6 = some 67 := by decide +kernel
theorem pq_67 : mj_prog 67 = mj_p67 := rfl
theorem k67_0 : mj_look (mj_prog 67) 0 = some (.iconst 0, 1, 0, 0) := by decide +kernel
theorem k67_1 : mj_look (mj_prog 67) 1 = some (.istore_n 1, 1, 0, 0) := by decide +kernel
theorem k67_2 : mj_look (mj_prog 67) 2 = some (.iconst 0, 1, 0, 0) := by decide +kernel
theorem k67_3 : mj_look (mj_prog 67) 3 = some (.istore_n 2, 1, 0, 0) := by decide +kernel
theorem k67_4 : mj_look (mj_prog 67) 4 = some (.iload_n 2, 1, 0, 0) := by decide +kernel
theorem k67_5 : mj_look (mj_prog 67) 5 = some (.aload_n 0, 1, 0, 0) := by decide +kernel
theorem k67_6 : mj_look (mj_prog 67) 6 = some (.getfield 23, 3, 6, 5) := by decide +kernel
theorem k67_9 : mj_look (mj_prog 67) 9 = some (.if_icmp .ge 20, 3, 29, 0) := by decide +kernel
theorem k67_12 : mj_look (mj_prog 67) 12 = some (.aload_n 0, 1, 0, 0) := by decide +kernel
theorem k67_13 : mj_look (mj_prog 67) 13 = some (.iload_n 2, 1, 0, 0) := by decide +kernel
theorem k67_14 : mj_look (mj_prog 67) 14 = some (.invokevirtual 64, 3, 32, 1) := by decide +kernel
theorem k67_17 : mj_look (mj_prog 67) 17 = some (.ifCond .ge 6, 3, 23, 0) := by decide +kernel
theorem k67_20 : mj_look (mj_prog 67) 20 = some (.iinc 1 1, 3, 0, 0) := by decide +kernel
theorem k67_23 : mj_look (mj_prog 67) 23 = some (.iinc 2 1, 3, 0, 0) := by decide +kernel
theorem k67_26 : mj_look (mj_prog 67) 26 = some (.goto (-22), 3, 4, 0) := by decide +kernel
theorem k67_29 : mj_look (mj_prog 67) 29 = some (.iload_n 1, 1, 0, 0) := by decide +kernel
theorem k67_30 : mj_look (mj_prog 67) 30 = some (.ireturn, 1, 0, 0) := by decide +kernel
theorem mx_68 : (mj_m 68).2.2.1 = 3 := by decide +kernel
theorem rt_68 : (mj_m 68).2.2.2.1 = (some FieldType.int) := by decide +kernel
theorem dp_68 : mj_disp 68 11 = some 68 := by decide +kernel
theorem pq_68 : mj_prog 68 = mj_p68 := rfl
theorem k68_0 : mj_look (mj_prog 68) 0 = some (.iconst 0, 1, 0, 0) := by decide +kernel
theorem k68_1 : mj_look (mj_prog 68) 1 = some (.istore_n 1, 1, 0, 0) := by decide +kernel
theorem k68_2 : mj_look (mj_prog 68) 2 = some (.iconst 0, 1, 0, 0) := by decide +kernel
theorem k68_3 : mj_look (mj_prog 68) 3 = some (.istore_n 2, 1, 0, 0) := by decide +kernel
theorem k68_4 : mj_look (mj_prog 68) 4 = some (.iload_n 2, 1, 0, 0) := by decide +kernel
theorem k68_5 : mj_look (mj_prog 68) 5 = some (.aload_n 0, 1, 0, 0) := by decide +kernel
theorem k68_6 : mj_look (mj_prog 68) 6 = some (.getfield 49, 3, 11, 3) := by decide +kernel
theorem k68_9 : mj_look (mj_prog 68) 9 = some (.getfield 97, 3, 6, 5) := by decide +kernel
theorem k68_12 : mj_look (mj_prog 68) 12 = some (.if_icmp .ge 22, 3, 34, 0) := by decide +kernel
theorem k68_15 : mj_look (mj_prog 68) 15 = some (.iload_n 1, 1, 0, 0) := by decide +kernel
theorem k68_16 : mj_look (mj_prog 68) 16 = some (.iconst 1, 1, 0, 0) := by decide +kernel
theorem k68_17 : mj_look (mj_prog 68) 17 = some (.aload_n 0, 1, 0, 0) := by decide +kernel
theorem k68_18 : mj_look (mj_prog 68) 18 = some (.getfield 49, 3, 11, 3) := by decide +kernel
theorem k68_21 : mj_look (mj_prog 68) 21 = some (.iload_n 2, 1, 0, 0) := by decide +kernel
theorem k68_22 : mj_look (mj_prog 68) 22 = some (.invokevirtual 112, 3, 20, 1) := by decide +kernel
theorem k68_25 : mj_look (mj_prog 68) 25 = some (.ishl, 1, 0, 0) := by decide +kernel
theorem k68_26 : mj_look (mj_prog 68) 26 = some (.ior, 1, 0, 0) := by decide +kernel
theorem k68_27 : mj_look (mj_prog 68) 27 = some (.istore_n 1, 1, 0, 0) := by decide +kernel
theorem k68_28 : mj_look (mj_prog 68) 28 = some (.iinc 2 1, 3, 0, 0) := by decide +kernel
theorem k68_31 : mj_look (mj_prog 68) 31 = some (.goto (-27), 3, 4, 0) := by decide +kernel
theorem k68_34 : mj_look (mj_prog 68) 34 = some (.iload_n 1, 1, 0, 0) := by decide +kernel
theorem k68_35 : mj_look (mj_prog 68) 35 = some (.ireturn, 1, 0, 0) := by decide +kernel
theorem mx_69 : (mj_m 69).2.2.1 = 5 := by decide +kernel
theorem rt_69 : (mj_m 69).2.2.2.1 = (some FieldType.int) := by decide +kernel
theorem dp_69 : mj_disp 69 11 = some 69 := by decide +kernel
theorem pq_69 : mj_prog 69 = mj_p69 := rfl
theorem k69_0 : mj_look (mj_prog 69) 0 = some (.iload_n 2, 1, 0, 0) := by decide +kernel
theorem k69_1 : mj_look (mj_prog 69) 1 = some (.iconst 0, 1, 0, 0) := by decide +kernel
theorem k69_2 : mj_look (mj_prog 69) 2 = some (.iconst 3, 1, 0, 0) := by decide +kernel
theorem k69_3 : mj_look (mj_prog 69) 3 = some (.invokestatic 141, 3, 16, 3) := by decide +kernel
theorem k69_6 : mj_look (mj_prog 69) 6 = some (.istore_n 3, 1, 0, 0) := by decide +kernel
theorem k69_7 : mj_look (mj_prog 69) 7 = some (.iload_n 2, 1, 0, 0) := by decide +kernel
theorem k69_8 : mj_look (mj_prog 69) 8 = some (.iconst 4, 1, 0, 0) := by decide +kernel
theorem k69_9 : mj_look (mj_prog 69) 9 = some (.if_icmp .lt 17, 3, 26, 0) := by decide +kernel
theorem k69_12 : mj_look (mj_prog 69) 12 = some (.aload_n 0, 1, 0, 0) := by decide +kernel
theorem k69_13 : mj_look (mj_prog 69) 13 = some (.iload_n 2, 1, 0, 0) := by decide +kernel
theorem k69_14 : mj_look (mj_prog 69) 14 = some (.iconst 4, 1, 0, 0) := by decide +kernel
theorem k69_15 : mj_look (mj_prog 69) 15 = some (.isub, 1, 0, 0) := by decide +kernel
theorem k69_16 : mj_look (mj_prog 69) 16 = some (.invokevirtual 105, 3, 19, 1) := by decide +kernel
theorem k69_19 : mj_look (mj_prog 69) 19 = some (.ifCond .eq 7, 3, 26, 0) := by decide +kernel
theorem k69_22 : mj_look (mj_prog 69) 22 = some (.iconst 1, 1, 0, 0) := by decide +kernel
theorem k69_23 : mj_look (mj_prog 69) 23 = some (.goto 4, 3, 27, 0) := by decide +kernel
theorem k69_26 : mj_look (mj_prog 69) 26 = some (.iconst 0, 1, 0, 0) := by decide +kernel
theorem k69_27 : mj_look (mj_prog 69) 27 = some (.istore 4, 2, 0, 0) := by decide +kernel
theorem k69_29 : mj_look (mj_prog 69) 29 = some (.iload_n 1, 1, 0, 0) := by decide +kernel
theorem k69_30 : mj_look (mj_prog 69) 30 = some (.iconst 0, 1, 0, 0) := by decide +kernel
theorem k69_31 : mj_look (mj_prog 69) 31 = some (.sipush 300, 3, 0, 0) := by decide +kernel
theorem k69_34 : mj_look (mj_prog 69) 34 = some (.invokestatic 141, 3, 16, 3) := by decide +kernel
theorem k69_37 : mj_look (mj_prog 69) 37 = some (.ifCond .eq 12, 3, 49, 0) := by decide +kernel
theorem k69_40 : mj_look (mj_prog 69) 40 = some (.iload_n 3, 1, 0, 0) := by decide +kernel
theorem k69_41 : mj_look (mj_prog 69) 41 = some (.ifCond .ne 11, 3, 52, 0) := by decide +kernel
theorem k69_44 : mj_look (mj_prog 69) 44 = some (.iload 4, 2, 0, 0) := by decide +kernel
theorem k69_46 : mj_look (mj_prog 69) 46 = some (.ifCond .ne 6, 3, 52, 0) := by decide +kernel
theorem k69_49 : mj_look (mj_prog 69) 49 = some (.ldc 96, 2, 3294967295, 0) := by decide +kernel
theorem k69_51 : mj_look (mj_prog 69) 51 = some (.ireturn, 1, 0, 0) := by decide +kernel
theorem k69_52 : mj_look (mj_prog 69) 52 = some (.aload_n 0, 1, 0, 0) := by decide +kernel
theorem k69_53 : mj_look (mj_prog 69) 53 = some (.getfield 53, 3, 11, 4) := by decide +kernel
theorem k69_56 : mj_look (mj_prog 69) 56 = some (.aload_n 0, 1, 0, 0) := by decide +kernel
theorem k69_57 : mj_look (mj_prog 69) 57 = some (.getfield 49, 3, 11, 3) := by decide +kernel
theorem k69_60 : mj_look (mj_prog 69) 60 = some (.invokevirtual 175, 3, 70, 1) := by decide +kernel
theorem k69_63 : mj_look (mj_prog 69) 63 = some (.aload_n 0, 1, 0, 0) := by decide +kernel
theorem k69_64 : mj_look (mj_prog 69) 64 = some (.getfield 53, 3, 11, 4) := by decide +kernel
theorem k69_67 : mj_look (mj_prog 69) 67 = some (.iload_n 1, 1, 0, 0) := by decide +kernel
theorem k69_68 : mj_look (mj_prog 69) 68 = some (.invokevirtual 168, 3, 63, 1) := by decide +kernel
theorem k69_71 : mj_look (mj_prog 69) 71 = some (.iload_n 3, 1, 0, 0) := by decide +kernel
theorem k69_72 : mj_look (mj_prog 69) 72 = some (.ifCond .eq 16, 3, 88, 0) := by decide +kernel
theorem k69_75 : mj_look (mj_prog 69) 75 = some (.aload_n 0, 1, 0, 0) := by decide +kernel
theorem k69_76 : mj_look (mj_prog 69) 76 = some (.getfield 53, 3, 11, 4) := by decide +kernel
theorem k69_79 : mj_look (mj_prog 69) 79 = some (.iconst 3, 1, 0, 0) := by decide +kernel
theorem k69_80 : mj_look (mj_prog 69) 80 = some (.iload_n 2, 1, 0, 0) := by decide +kernel
theorem k69_81 : mj_look (mj_prog 69) 81 = some (.iadd, 1, 0, 0) := by decide +kernel
theorem k69_82 : mj_look (mj_prog 69) 82 = some (.invokevirtual 162, 3, 62, 1) := by decide +kernel
theorem k69_85 : mj_look (mj_prog 69) 85 = some (.goto 16, 3, 101, 0) := by decide +kernel
theorem k69_88 : mj_look (mj_prog 69) 88 = some (.aload_n 0, 1, 0, 0) := by decide +kernel
theorem k69_89 : mj_look (mj_prog 69) 89 = some (.getfield 53, 3, 11, 4) := by decide +kernel
theorem k69_92 : mj_look (mj_prog 69) 92 = some (.getfield 108, 3, 6, 3) := by decide +kernel
theorem k69_95 : mj_look (mj_prog 69) 95 = some (.iconst 1, 1, 0, 0) := by decide +kernel
theorem k69_96 : mj_look (mj_prog 69) 96 = some (.aaload, 1, 0, 0) := by decide +kernel
theorem k69_97 : mj_look (mj_prog 69) 97 = some (.iload_n 2, 1, 0, 0) := by decide +kernel
theorem k69_98 : mj_look (mj_prog 69) 98 = some (.iconst 4, 1, 0, 0) := by decide +kernel
theorem k69_99 : mj_look (mj_prog 69) 99 = some (.isub, 1, 0, 0) := by decide +kernel
theorem k69_100 : mj_look (mj_prog 69) 100 = some (.iaload, 1, 0, 0) := by decide +kernel
theorem k69_101 : mj_look (mj_prog 69) 101 = some (.ireturn, 1, 0, 0) := by decide +kernel
theorem mx_70 : (mj_m 70).2.2.1 = 3 := by decide +kernel
theorem rt_70 : (mj_m 70).2.2.2.1 = none := by decide +kernel
theorem dp_70 : mj_disp 70 6 = some 70 := by decide +kernel
theorem pq_70 : mj_prog 70 = mj_p70 := rfl
theorem k70_0 : mj_look (mj_prog 70) 0 = some (.iconst 0, 1, 0, 0) := by decide +kernel
theorem k70_1 : mj_look (mj_prog 70) 1 = some (.istore_n 2, 1, 0, 0) := by decide +kernel
theorem k70_2 : mj_look (mj_prog 70) 2 = some (.iload_n 2, 1, 0, 0) := by decide +kernel
theorem k70_3 : mj_look (mj_prog 70) 3 = some (.iconst 4, 1, 0, 0) := by decide +kernel
theorem k70_4 : mj_look (mj_prog 70) 4 = some (.if_icmp .ge 28, 3, 32, 0) := by decide +kernel
theorem k70_7 : mj_look (mj_prog 70) 7 = some (.aload_n 1, 1, 0, 0) := by decide +kernel
theorem k70_8 : mj_look (mj_prog 70) 8 = some (.getfield 11, 3, 6, 2) := by decide +kernel
theorem k70_11 : mj_look (mj_prog 70) 11 = some (.iload_n 2, 1, 0, 0) := by decide +kernel
theorem k70_12 : mj_look (mj_prog 70) 12 = some (.aaload, 1, 0, 0) := by decide +kernel
theorem k70_13 : mj_look (mj_prog 70) 13 = some (.iconst 0, 1, 0, 0) := by decide +kernel
theorem k70_14 : mj_look (mj_prog 70) 14 = some (.aload_n 0, 1, 0, 0) := by decide +kernel
theorem k70_15 : mj_look (mj_prog 70) 15 = some (.getfield 11, 3, 6, 2) := by decide +kernel
theorem k70_18 : mj_look (mj_prog 70) 18 = some (.iload_n 2, 1, 0, 0) := by decide +kernel
theorem k70_19 : mj_look (mj_prog 70) 19 = some (.aaload, 1, 0, 0) := by decide +kernel
theorem k70_20 : mj_look (mj_prog 70) 20 = some (.iconst 0, 1, 0, 0) := by decide +kernel
theorem k70_21 : mj_look (mj_prog 70) 21 = some (.bipush 12, 2, 0, 0) := by decide +kernel
theorem k70_23 : mj_look (mj_prog 70) 23 = some (.invokestatic 47, 3, 3001, 5) := by decide +kernel
theorem k70_26 : mj_look (mj_prog 70) 26 = some (.iinc 2 1, 3, 0, 0) := by decide +kernel
theorem k70_29 : mj_look (mj_prog 70) 29 = some (.goto (-27), 3, 2, 0) := by decide +kernel
theorem k70_32 : mj_look (mj_prog 70) 32 = some (.iconst 0, 1, 0, 0) := by decide +kernel
theorem k70_33 : mj_look (mj_prog 70) 33 = some (.istore_n 2, 1, 0, 0) := by decide +kernel
theorem k70_34 : mj_look (mj_prog 70) 34 = some (.iload_n 2, 1, 0, 0) := by decide +kernel
theorem k70_35 : mj_look (mj_prog 70) 35 = some (.bipush 7, 2, 0, 0) := by decide +kernel
theorem k70_37 : mj_look (mj_prog 70) 37 = some (.if_icmp .ge 28, 3, 65, 0) := by decide +kernel
theorem k70_40 : mj_look (mj_prog 70) 40 = some (.aload_n 1, 1, 0, 0) := by decide +kernel
theorem k70_41 : mj_look (mj_prog 70) 41 = some (.getfield 16, 3, 6, 3) := by decide +kernel
theorem k70_44 : mj_look (mj_prog 70) 44 = some (.iload_n 2, 1, 0, 0) := by decide +kernel
theorem k70_45 : mj_look (mj_prog 70) 45 = some (.aaload, 1, 0, 0) := by decide +kernel
theorem k70_46 : mj_look (mj_prog 70) 46 = some (.iconst 0, 1, 0, 0) := by decide +kernel
theorem k70_47 : mj_look (mj_prog 70) 47 = some (.aload_n 0, 1, 0, 0) := by decide +kernel
theorem k70_48 : mj_look (mj_prog 70) 48 = some (.getfield 16, 3, 6, 3) := by decide +kernel
theorem k70_51 : mj_look (mj_prog 70) 51 = some (.iload_n 2, 1, 0, 0) := by decide +kernel
theorem k70_52 : mj_look (mj_prog 70) 52 = some (.aaload, 1, 0, 0) := by decide +kernel
theorem k70_53 : mj_look (mj_prog 70) 53 = some (.iconst 0, 1, 0, 0) := by decide +kernel
theorem k70_54 : mj_look (mj_prog 70) 54 = some (.bipush 8, 2, 0, 0) := by decide +kernel
theorem k70_56 : mj_look (mj_prog 70) 56 = some (.invokestatic 47, 3, 3001, 5) := by decide +kernel
theorem k70_59 : mj_look (mj_prog 70) 59 = some (.iinc 2 1, 3, 0, 0) := by decide +kernel
theorem k70_62 : mj_look (mj_prog 70) 62 = some (.goto (-28), 3, 34, 0) := by decide +kernel
theorem k70_65 : mj_look (mj_prog 70) 65 = some (.aload_n 1, 1, 0, 0) := by decide +kernel
theorem k70_66 : mj_look (mj_prog 70) 66 = some (.getfield 19, 3, 6, 4) := by decide +kernel
theorem k70_69 : mj_look (mj_prog 70) 69 = some (.iconst 0, 1, 0, 0) := by decide +kernel
theorem k70_70 : mj_look (mj_prog 70) 70 = some (.aload_n 0, 1, 0, 0) := by decide +kernel
theorem k70_71 : mj_look (mj_prog 70) 71 = some (.getfield 19, 3, 6, 4) := by decide +kernel
theorem k70_74 : mj_look (mj_prog 70) 74 = some (.iconst 0, 1, 0, 0) := by decide +kernel
theorem k70_75 : mj_look (mj_prog 70) 75 = some (.iconst 3, 1, 0, 0) := by decide +kernel
theorem k70_76 : mj_look (mj_prog 70) 76 = some (.invokestatic 47, 3, 3001, 5) := by decide +kernel
theorem k70_79 : mj_look (mj_prog 70) 79 = some (.aload_n 0, 1, 0, 0) := by decide +kernel
theorem k70_80 : mj_look (mj_prog 70) 80 = some (.aload_n 1, 1, 0, 0) := by decide +kernel
theorem k70_81 : mj_look (mj_prog 70) 81 = some (.getfield 23, 3, 6, 5) := by decide +kernel
theorem k70_84 : mj_look (mj_prog 70) 84 = some (.putfield 23, 3, 6, 5) := by decide +kernel
theorem k70_87 : mj_look (mj_prog 70) 87 = some (.aload_n 0, 1, 0, 0) := by decide +kernel
theorem k70_88 : mj_look (mj_prog 70) 88 = some (.aload_n 1, 1, 0, 0) := by decide +kernel
theorem k70_89 : mj_look (mj_prog 70) 89 = some (.getfield 27, 3, 6, 6) := by decide +kernel
theorem k70_92 : mj_look (mj_prog 70) 92 = some (.putfield 27, 3, 6, 6) := by decide +kernel
theorem k70_95 : mj_look (mj_prog 70) 95 = some (.aload_n 0, 1, 0, 0) := by decide +kernel
theorem k70_96 : mj_look (mj_prog 70) 96 = some (.aload_n 1, 1, 0, 0) := by decide +kernel
theorem k70_97 : mj_look (mj_prog 70) 97 = some (.getfield 30, 3, 6, 7) := by decide +kernel
theorem k70_100 : mj_look (mj_prog 70) 100 = some (.putfield 30, 3, 6, 7) := by decide +kernel
theorem k70_103 : mj_look (mj_prog 70) 103 = some (.aload_n 0, 1, 0, 0) := by decide +kernel
theorem k70_104 : mj_look (mj_prog 70) 104 = some (.aload_n 1, 1, 0, 0) := by decide +kernel
theorem k70_105 : mj_look (mj_prog 70) 105 = some (.getfield 33, 3, 6, 8) := by decide +kernel
theorem k70_108 : mj_look (mj_prog 70) 108 = some (.putfield 33, 3, 6, 8) := by decide +kernel
theorem k70_111 : mj_look (mj_prog 70) 111 = some (.aload_n 0, 1, 0, 0) := by decide +kernel
theorem k70_112 : mj_look (mj_prog 70) 112 = some (.aload_n 1, 1, 0, 0) := by decide +kernel
theorem k70_113 : mj_look (mj_prog 70) 113 = some (.getfield 36, 3, 6, 9) := by decide +kernel
theorem k70_116 : mj_look (mj_prog 70) 116 = some (.putfield 36, 3, 6, 9) := by decide +kernel
theorem k70_119 : mj_look (mj_prog 70) 119 = some (.return_, 1, 0, 0) := by decide +kernel
theorem mx_71 : (mj_m 71).2.2.1 = 3 := by decide +kernel
theorem rt_71 : (mj_m 71).2.2.2.1 = (some FieldType.int) := by decide +kernel
theorem dp_71 : mj_disp 71 11 = some 71 := by decide +kernel
theorem pq_71 : mj_prog 71 = mj_p71 := rfl
theorem k71_0 : mj_look (mj_prog 71) 0 = some (.aload_n 0, 1, 0, 0) := by decide +kernel
theorem k71_1 : mj_look (mj_prog 71) 1 = some (.getfield 53, 3, 11, 4) := by decide +kernel
theorem k71_4 : mj_look (mj_prog 71) 4 = some (.aload_n 0, 1, 0, 0) := by decide +kernel
theorem k71_5 : mj_look (mj_prog 71) 5 = some (.getfield 49, 3, 11, 3) := by decide +kernel
theorem k71_8 : mj_look (mj_prog 71) 8 = some (.invokevirtual 175, 3, 70, 1) := by decide +kernel
theorem k71_11 : mj_look (mj_prog 71) 11 = some (.aload_n 0, 1, 0, 0) := by decide +kernel
theorem k71_12 : mj_look (mj_prog 71) 12 = some (.getfield 49, 3, 11, 3) := by decide +kernel
theorem k71_15 : mj_look (mj_prog 71) 15 = some (.iconst 5, 1, 0, 0) := by decide +kernel
theorem k71_16 : mj_look (mj_prog 71) 16 = some (.invokevirtual 162, 3, 62, 1) := by decide +kernel
theorem k71_19 : mj_look (mj_prog 71) 19 = some (.istore_n 1, 1, 0, 0) := by decide +kernel
theorem k71_20 : mj_look (mj_prog 71) 20 = some (.iconst 1, 1, 0, 0) := by decide +kernel
theorem k71_21 : mj_look (mj_prog 71) 21 = some (.istore_n 2, 1, 0, 0) := by decide +kernel
theorem k71_22 : mj_look (mj_prog 71) 22 = some (.iload_n 2, 1, 0, 0) := by decide +kernel
theorem k71_23 : mj_look (mj_prog 71) 23 = some (.sipush 300, 3, 0, 0) := by decide +kernel
theorem k71_26 : mj_look (mj_prog 71) 26 = some (.if_icmp .gt 31, 3, 57, 0) := by decide +kernel
theorem k71_29 : mj_look (mj_prog 71) 29 = some (.aload_n 0, 1, 0, 0) := by decide +kernel
theorem k71_30 : mj_look (mj_prog 71) 30 = some (.getfield 53, 3, 11, 4) := by decide +kernel
theorem k71_33 : mj_look (mj_prog 71) 33 = some (.iconst 1, 1, 0, 0) := by decide +kernel
theorem k71_34 : mj_look (mj_prog 71) 34 = some (.invokevirtual 168, 3, 63, 1) := by decide +kernel
theorem k71_37 : mj_look (mj_prog 71) 37 = some (.aload_n 0, 1, 0, 0) := by decide +kernel
theorem k71_38 : mj_look (mj_prog 71) 38 = some (.getfield 53, 3, 11, 4) := by decide +kernel
theorem k71_41 : mj_look (mj_prog 71) 41 = some (.iconst 5, 1, 0, 0) := by decide +kernel
theorem k71_42 : mj_look (mj_prog 71) 42 = some (.invokevirtual 162, 3, 62, 1) := by decide +kernel
theorem k71_45 : mj_look (mj_prog 71) 45 = some (.iload_n 1, 1, 0, 0) := by decide +kernel
theorem k71_46 : mj_look (mj_prog 71) 46 = some (.if_icmp .le 5, 3, 51, 0) := by decide +kernel
theorem k71_49 : mj_look (mj_prog 71) 49 = some (.iload_n 2, 1, 0, 0) := by decide +kernel
theorem k71_50 : mj_look (mj_prog 71) 50 = some (.ireturn, 1, 0, 0) := by decide +kernel
theorem k71_51 : mj_look (mj_prog 71) 51 = some (.iinc 2 1, 3, 0, 0) := by decide +kernel
theorem k71_54 : mj_look (mj_prog 71) 54 = some (.goto (-32), 3, 22, 0) := by decide +kernel
theorem k71_57 : mj_look (mj_prog 71) 57 = some (.ldc 179, 2, 3294967291, 0) := by decide +kernel
theorem k71_59 : mj_look (mj_prog 71) 59 = some (.ireturn, 1, 0, 0) := by decide +kernel
theorem mx_72 : (mj_m 72).2.2.1 = 8 := by decide +kernel
theorem rt_72 : (mj_m 72).2.2.2.1 = (some FieldType.int) := by decide +kernel
theorem dp_72 : mj_disp 72 11 = some 72 := by decide +kernel
theorem pq_72 : mj_prog 72 = mj_p72 := rfl
theorem k72_0 : mj_look (mj_prog 72) 0 = some (.iload_n 1, 1, 0, 0) := by decide +kernel
theorem k72_1 : mj_look (mj_prog 72) 1 = some (.invokestatic 134, 3, 45, 1) := by decide +kernel
theorem k72_4 : mj_look (mj_prog 72) 4 = some (.ifCond .eq 19, 3, 23, 0) := by decide +kernel
theorem k72_7 : mj_look (mj_prog 72) 7 = some (.iload_n 2, 1, 0, 0) := by decide +kernel
theorem k72_8 : mj_look (mj_prog 72) 8 = some (.invokestatic 180, 3, 73, 1) := by decide +kernel
theorem k72_11 : mj_look (mj_prog 72) 11 = some (.ifCond .eq 12, 3, 23, 0) := by decide +kernel
theorem k72_14 : mj_look (mj_prog 72) 14 = some (.iload_n 3, 1, 0, 0) := by decide +kernel
theorem k72_15 : mj_look (mj_prog 72) 15 = some (.iconst 0, 1, 0, 0) := by decide +kernel
theorem k72_16 : mj_look (mj_prog 72) 16 = some (.iconst 1, 1, 0, 0) := by decide +kernel
theorem k72_17 : mj_look (mj_prog 72) 17 = some (.invokestatic 141, 3, 16, 3) := by decide +kernel
theorem k72_20 : mj_look (mj_prog 72) 20 = some (.ifCond .ne 6, 3, 26, 0) := by decide +kernel
theorem k72_23 : mj_look (mj_prog 72) 23 = some (.ldc 96, 2, 3294967295, 0) := by decide +kernel
theorem k72_25 : mj_look (mj_prog 72) 25 = some (.ireturn, 1, 0, 0) := by decide +kernel
theorem k72_26 : mj_look (mj_prog 72) 26 = some (.ldc 179, 2, 3294967291, 0) := by decide +kernel
theorem k72_28 : mj_look (mj_prog 72) 28 = some (.istore 4, 2, 0, 0) := by decide +kernel
theorem k72_30 : mj_look (mj_prog 72) 30 = some (.iconst 0, 1, 0, 0) := by decide +kernel
theorem k72_31 : mj_look (mj_prog 72) 31 = some (.istore 5, 2, 0, 0) := by decide +kernel
theorem k72_33 : mj_look (mj_prog 72) 33 = some (.iconst 0, 1, 0, 0) := by decide +kernel
theorem k72_34 : mj_look (mj_prog 72) 34 = some (.istore 6, 2, 0, 0) := by decide +kernel
theorem k72_36 : mj_look (mj_prog 72) 36 = some (.iload 6, 2, 0, 0) := by decide +kernel
theorem k72_38 : mj_look (mj_prog 72) 38 = some (.bipush 9, 2, 0, 0) := by decide +kernel
theorem k72_40 : mj_look (mj_prog 72) 40 = some (.if_icmp .gt 71, 3, 111, 0) := by decide +kernel
theorem k72_43 : mj_look (mj_prog 72) 43 = some (.aload_n 0, 1, 0, 0) := by decide +kernel
theorem k72_44 : mj_look (mj_prog 72) 44 = some (.getfield 53, 3, 11, 4) := by decide +kernel
theorem k72_47 : mj_look (mj_prog 72) 47 = some (.aload_n 0, 1, 0, 0) := by decide +kernel
theorem k72_48 : mj_look (mj_prog 72) 48 = some (.getfield 49, 3, 11, 3) := by decide +kernel
theorem k72_51 : mj_look (mj_prog 72) 51 = some (.invokevirtual 175, 3, 70, 1) := by decide +kernel
theorem k72_54 : mj_look (mj_prog 72) 54 = some (.aload_n 0, 1, 0, 0) := by decide +kernel
theorem k72_55 : mj_look (mj_prog 72) 55 = some (.getfield 53, 3, 11, 4) := by decide +kernel
theorem k72_58 : mj_look (mj_prog 72) 58 = some (.getfield 145, 3, 6, 2) := by decide +kernel
theorem k72_61 : mj_look (mj_prog 72) 61 = some (.iconst 1, 1, 0, 0) := by decide +kernel
theorem k72_62 : mj_look (mj_prog 72) 62 = some (.aaload, 1, 0, 0) := by decide +kernel
theorem k72_63 : mj_look (mj_prog 72) 63 = some (.iload_n 1, 1, 0, 0) := by decide +kernel
theorem k72_64 : mj_look (mj_prog 72) 64 = some (.iload 6, 2, 0, 0) := by decide +kernel
theorem k72_66 : mj_look (mj_prog 72) 66 = some (.iastore, 1, 0, 0) := by decide +kernel
theorem k72_67 : mj_look (mj_prog 72) 67 = some (.aload_n 0, 1, 0, 0) := by decide +kernel
theorem k72_68 : mj_look (mj_prog 72) 68 = some (.iload_n 2, 1, 0, 0) := by decide +kernel
theorem k72_69 : mj_look (mj_prog 72) 69 = some (.invokevirtual 183, 3, 74, 1) := by decide +kernel
theorem k72_72 : mj_look (mj_prog 72) 72 = some (.aload_n 0, 1, 0, 0) := by decide +kernel
theorem k72_73 : mj_look (mj_prog 72) 73 = some (.getfield 53, 3, 11, 4) := by decide +kernel
theorem k72_76 : mj_look (mj_prog 72) 76 = some (.iconst 5, 1, 0, 0) := by decide +kernel
theorem k72_77 : mj_look (mj_prog 72) 77 = some (.invokevirtual 162, 3, 62, 1) := by decide +kernel
theorem k72_80 : mj_look (mj_prog 72) 80 = some (.isub, 1, 0, 0) := by decide +kernel
theorem k72_81 : mj_look (mj_prog 72) 81 = some (.istore 7, 2, 0, 0) := by decide +kernel
theorem k72_83 : mj_look (mj_prog 72) 83 = some (.iload 4, 2, 0, 0) := by decide +kernel
theorem k72_85 : mj_look (mj_prog 72) 85 = some (.ldc 179, 2, 3294967291, 0) := by decide +kernel
theorem k72_87 : mj_look (mj_prog 72) 87 = some (.if_icmp .eq 10, 3, 97, 0) := by decide +kernel
theorem k72_90 : mj_look (mj_prog 72) 90 = some (.iload 7, 2, 0, 0) := by decide +kernel
theorem k72_92 : mj_look (mj_prog 72) 92 = some (.iload 5, 2, 0, 0) := by decide +kernel
theorem k72_94 : mj_look (mj_prog 72) 94 = some (.if_icmp .le 11, 3, 105, 0) := by decide +kernel
theorem k72_97 : mj_look (mj_prog 72) 97 = some (.iload 6, 2, 0, 0) := by decide +kernel
theorem k72_99 : mj_look (mj_prog 72) 99 = some (.istore 4, 2, 0, 0) := by decide +kernel
theorem k72_101 : mj_look (mj_prog 72) 101 = some (.iload 7, 2, 0, 0) := by decide +kernel
theorem k72_103 : mj_look (mj_prog 72) 103 = some (.istore 5, 2, 0, 0) := by decide +kernel
theorem k72_105 : mj_look (mj_prog 72) 105 = some (.iinc 6 1, 3, 0, 0) := by decide +kernel
theorem k72_108 : mj_look (mj_prog 72) 108 = some (.goto (-72), 3, 36, 0) := by decide +kernel
theorem k72_111 : mj_look (mj_prog 72) 111 = some (.iload_n 3, 1, 0, 0) := by decide +kernel
theorem k72_112 : mj_look (mj_prog 72) 112 = some (.ifCond .ne 8, 3, 120, 0) := by decide +kernel
theorem k72_115 : mj_look (mj_prog 72) 115 = some (.iload 4, 2, 0, 0) := by decide +kernel
theorem k72_117 : mj_look (mj_prog 72) 117 = some (.goto 5, 3, 122, 0) := by decide +kernel
theorem k72_120 : mj_look (mj_prog 72) 120 = some (.iload 5, 2, 0, 0) := by decide +kernel
theorem k72_122 : mj_look (mj_prog 72) 122 = some (.ireturn, 1, 0, 0) := by decide +kernel
theorem mx_73 : (mj_m 73).2.2.1 = 1 := by decide +kernel
theorem rt_73 : (mj_m 73).2.2.2.1 = (some FieldType.boolean) := by decide +kernel
theorem dp_73 : mj_disp 73 11 = some 73 := by decide +kernel
theorem pq_73 : mj_prog 73 = mj_p73 := rfl
theorem k73_0 : mj_look (mj_prog 73) 0 = some (.iload_n 0, 1, 0, 0) := by decide +kernel
theorem k73_1 : mj_look (mj_prog 73) 1 = some (.iconst 1, 1, 0, 0) := by decide +kernel
theorem k73_2 : mj_look (mj_prog 73) 2 = some (.bipush 100, 2, 0, 0) := by decide +kernel
theorem k73_4 : mj_look (mj_prog 73) 4 = some (.invokestatic 141, 3, 16, 3) := by decide +kernel
theorem k73_7 : mj_look (mj_prog 73) 7 = some (.ireturn, 1, 0, 0) := by decide +kernel
theorem mx_74 : (mj_m 74).2.2.1 = 2 := by decide +kernel
theorem rt_74 : (mj_m 74).2.2.2.1 = (some FieldType.int) := by decide +kernel
theorem dp_74 : mj_disp 74 11 = some 74 := by decide +kernel
theorem pq_74 : mj_prog 74 = mj_p74 := rfl
theorem k74_0 : mj_look (mj_prog 74) 0 = some (.aload_n 0, 1, 0, 0) := by decide +kernel
theorem k74_1 : mj_look (mj_prog 74) 1 = some (.getfield 53, 3, 11, 4) := by decide +kernel
theorem k74_4 : mj_look (mj_prog 74) 4 = some (.iload_n 1, 1, 0, 0) := by decide +kernel
theorem k74_5 : mj_look (mj_prog 74) 5 = some (.invokevirtual 168, 3, 63, 1) := by decide +kernel
theorem k74_8 : mj_look (mj_prog 74) 8 = some (.aload_n 0, 1, 0, 0) := by decide +kernel
theorem k74_9 : mj_look (mj_prog 74) 9 = some (.getfield 53, 3, 11, 4) := by decide +kernel
theorem k74_12 : mj_look (mj_prog 74) 12 = some (.iconst 3, 1, 0, 0) := by decide +kernel
theorem k74_13 : mj_look (mj_prog 74) 13 = some (.invokevirtual 162, 3, 62, 1) := by decide +kernel
theorem k74_16 : mj_look (mj_prog 74) 16 = some (.ireturn, 1, 0, 0) := by decide +kernel
theorem mx_75 : (mj_m 75).2.2.1 = 5 := by decide +kernel
theorem rt_75 : (mj_m 75).2.2.2.1 = (some FieldType.int) := by decide +kernel
theorem dp_75 : mj_disp 75 11 = some 75 := by decide +kernel
theorem pq_75 : mj_prog 75 = mj_p75 := rfl
theorem k75_0 : mj_look (mj_prog 75) 0 = some (.iload_n 1, 1, 0, 0) := by decide +kernel
theorem k75_1 : mj_look (mj_prog 75) 1 = some (.invokestatic 134, 3, 45, 1) := by decide +kernel
theorem k75_4 : mj_look (mj_prog 75) 4 = some (.ifCond .eq 22, 3, 26, 0) := by decide +kernel
theorem k75_7 : mj_look (mj_prog 75) 7 = some (.iload_n 2, 1, 0, 0) := by decide +kernel
theorem k75_8 : mj_look (mj_prog 75) 8 = some (.invokestatic 134, 3, 45, 1) := by decide +kernel
theorem k75_11 : mj_look (mj_prog 75) 11 = some (.ifCond .eq 15, 3, 26, 0) := by decide +kernel
theorem k75_14 : mj_look (mj_prog 75) 14 = some (.iload_n 1, 1, 0, 0) := by decide +kernel
theorem k75_15 : mj_look (mj_prog 75) 15 = some (.iload_n 2, 1, 0, 0) := by decide +kernel
theorem k75_16 : mj_look (mj_prog 75) 16 = some (.if_icmp .eq 10, 3, 26, 0) := by decide +kernel
theorem k75_19 : mj_look (mj_prog 75) 19 = some (.iload_n 3, 1, 0, 0) := by decide +kernel
theorem k75_20 : mj_look (mj_prog 75) 20 = some (.invokestatic 180, 3, 73, 1) := by decide +kernel
theorem k75_23 : mj_look (mj_prog 75) 23 = some (.ifCond .ne 6, 3, 29, 0) := by decide +kernel
theorem k75_26 : mj_look (mj_prog 75) 26 = some (.ldc 96, 2, 3294967295, 0) := by decide +kernel
theorem k75_28 : mj_look (mj_prog 75) 28 = some (.ireturn, 1, 0, 0) := by decide +kernel
theorem k75_29 : mj_look (mj_prog 75) 29 = some (.aload_n 0, 1, 0, 0) := by decide +kernel
theorem k75_30 : mj_look (mj_prog 75) 30 = some (.getfield 53, 3, 11, 4) := by decide +kernel
theorem k75_33 : mj_look (mj_prog 75) 33 = some (.aload_n 0, 1, 0, 0) := by decide +kernel
theorem k75_34 : mj_look (mj_prog 75) 34 = some (.getfield 49, 3, 11, 3) := by decide +kernel
theorem k75_37 : mj_look (mj_prog 75) 37 = some (.invokevirtual 175, 3, 70, 1) := by decide +kernel
theorem k75_40 : mj_look (mj_prog 75) 40 = some (.aload_n 0, 1, 0, 0) := by decide +kernel
theorem k75_41 : mj_look (mj_prog 75) 41 = some (.iload_n 3, 1, 0, 0) := by decide +kernel
theorem k75_42 : mj_look (mj_prog 75) 42 = some (.invokevirtual 183, 3, 74, 1) := by decide +kernel
theorem k75_45 : mj_look (mj_prog 75) 45 = some (.istore 4, 2, 0, 0) := by decide +kernel
theorem k75_47 : mj_look (mj_prog 75) 47 = some (.aload_n 0, 1, 0, 0) := by decide +kernel
theorem k75_48 : mj_look (mj_prog 75) 48 = some (.getfield 53, 3, 11, 4) := by decide +kernel
theorem k75_51 : mj_look (mj_prog 75) 51 = some (.aload_n 0, 1, 0, 0) := by decide +kernel
theorem k75_52 : mj_look (mj_prog 75) 52 = some (.getfield 49, 3, 11, 3) := by decide +kernel
theorem k75_55 : mj_look (mj_prog 75) 55 = some (.invokevirtual 175, 3, 70, 1) := by decide +kernel
theorem k75_58 : mj_look (mj_prog 75) 58 = some (.aload_n 0, 1, 0, 0) := by decide +kernel
theorem k75_59 : mj_look (mj_prog 75) 59 = some (.getfield 53, 3, 11, 4) := by decide +kernel
theorem k75_62 : mj_look (mj_prog 75) 62 = some (.iload_n 1, 1, 0, 0) := by decide +kernel
theorem k75_63 : mj_look (mj_prog 75) 63 = some (.iload_n 2, 1, 0, 0) := by decide +kernel
theorem k75_64 : mj_look (mj_prog 75) 64 = some (.invokevirtual 186, 3, 76, 2) := by decide +kernel
theorem k75_67 : mj_look (mj_prog 75) 67 = some (.aload_n 0, 1, 0, 0) := by decide +kernel
theorem k75_68 : mj_look (mj_prog 75) 68 = some (.iload_n 3, 1, 0, 0) := by decide +kernel
theorem k75_69 : mj_look (mj_prog 75) 69 = some (.invokevirtual 183, 3, 74, 1) := by decide +kernel
theorem k75_72 : mj_look (mj_prog 75) 72 = some (.iload 4, 2, 0, 0) := by decide +kernel
theorem k75_74 : mj_look (mj_prog 75) 74 = some (.isub, 1, 0, 0) := by decide +kernel
theorem k75_75 : mj_look (mj_prog 75) 75 = some (.ireturn, 1, 0, 0) := by decide +kernel
theorem mx_76 : (mj_m 76).2.2.1 = 5 := by decide +kernel
theorem rt_76 : (mj_m 76).2.2.2.1 = none := by decide +kernel
theorem dp_76 : mj_disp 76 6 = some 76 := by decide +kernel
theorem pq_76 : mj_prog 76 = mj_p76 := rfl
theorem k76_0 : mj_look (mj_prog 76) 0 = some (.iconst 2, 1, 0, 0) := by decide +kernel
theorem k76_1 : mj_look (mj_prog 76) 1 = some (.istore_n 3, 1, 0, 0) := by decide +kernel
theorem k76_2 : mj_look (mj_prog 76) 2 = some (.iload_n 3, 1, 0, 0) := by decide +kernel
theorem k76_3 : mj_look (mj_prog 76) 3 = some (.iconst 3, 1, 0, 0) := by decide +kernel
theorem k76_4 : mj_look (mj_prog 76) 4 = some (.if_icmp .gt 45, 3, 49, 0) := by decide +kernel
theorem k76_7 : mj_look (mj_prog 76) 7 = some (.aload_n 0, 1, 0, 0) := by decide +kernel
theorem k76_8 : mj_look (mj_prog 76) 8 = some (.getfield 11, 3, 6, 2) := by decide +kernel
theorem k76_11 : mj_look (mj_prog 76) 11 = some (.iload_n 3, 1, 0, 0) := by decide +kernel
theorem k76_12 : mj_look (mj_prog 76) 12 = some (.aaload, 1, 0, 0) := by decide +kernel
theorem k76_13 : mj_look (mj_prog 76) 13 = some (.iload_n 1, 1, 0, 0) := by decide +kernel
theorem k76_14 : mj_look (mj_prog 76) 14 = some (.iaload, 1, 0, 0) := by decide +kernel
theorem k76_15 : mj_look (mj_prog 76) 15 = some (.istore 4, 2, 0, 0) := by decide +kernel
theorem k76_17 : mj_look (mj_prog 76) 17 = some (.aload_n 0, 1, 0, 0) := by decide +kernel
theorem k76_18 : mj_look (mj_prog 76) 18 = some (.getfield 11, 3, 6, 2) := by decide +kernel
theorem k76_21 : mj_look (mj_prog 76) 21 = some (.iload_n 3, 1, 0, 0) := by decide +kernel
theorem k76_22 : mj_look (mj_prog 76) 22 = some (.aaload, 1, 0, 0) := by decide +kernel
theorem k76_23 : mj_look (mj_prog 76) 23 = some (.iload_n 1, 1, 0, 0) := by decide +kernel
theorem k76_24 : mj_look (mj_prog 76) 24 = some (.aload_n 0, 1, 0, 0) := by decide +kernel
theorem k76_25 : mj_look (mj_prog 76) 25 = some (.getfield 11, 3, 6, 2) := by decide +kernel
theorem k76_28 : mj_look (mj_prog 76) 28 = some (.iload_n 3, 1, 0, 0) := by decide +kernel
theorem k76_29 : mj_look (mj_prog 76) 29 = some (.aaload, 1, 0, 0) := by decide +kernel
theorem k76_30 : mj_look (mj_prog 76) 30 = some (.iload_n 2, 1, 0, 0) := by decide +kernel
theorem k76_31 : mj_look (mj_prog 76) 31 = some (.iaload, 1, 0, 0) := by decide +kernel
theorem k76_32 : mj_look (mj_prog 76) 32 = some (.iastore, 1, 0, 0) := by decide +kernel
theorem k76_33 : mj_look (mj_prog 76) 33 = some (.aload_n 0, 1, 0, 0) := by decide +kernel
theorem k76_34 : mj_look (mj_prog 76) 34 = some (.getfield 11, 3, 6, 2) := by decide +kernel
theorem k76_37 : mj_look (mj_prog 76) 37 = some (.iload_n 3, 1, 0, 0) := by decide +kernel
theorem k76_38 : mj_look (mj_prog 76) 38 = some (.aaload, 1, 0, 0) := by decide +kernel
theorem k76_39 : mj_look (mj_prog 76) 39 = some (.iload_n 2, 1, 0, 0) := by decide +kernel
theorem k76_40 : mj_look (mj_prog 76) 40 = some (.iload 4, 2, 0, 0) := by decide +kernel
theorem k76_42 : mj_look (mj_prog 76) 42 = some (.iastore, 1, 0, 0) := by decide +kernel
theorem k76_43 : mj_look (mj_prog 76) 43 = some (.iinc 3 1, 3, 0, 0) := by decide +kernel
theorem k76_46 : mj_look (mj_prog 76) 46 = some (.goto (-44), 3, 2, 0) := by decide +kernel
theorem k76_49 : mj_look (mj_prog 76) 49 = some (.return_, 1, 0, 0) := by decide +kernel
theorem mx_77 : (mj_m 77).2.2.1 = 7 := by decide +kernel
theorem rt_77 : (mj_m 77).2.2.2.1 = (some FieldType.int) := by decide +kernel
theorem dp_77 : mj_disp 77 11 = some 77 := by decide +kernel
theorem pq_77 : mj_prog 77 = mj_p77 := rfl
theorem k77_0 : mj_look (mj_prog 77) 0 = some (.iload_n 1, 1, 0, 0) := by decide +kernel
theorem k77_1 : mj_look (mj_prog 77) 1 = some (.invokestatic 180, 3, 73, 1) := by decide +kernel
theorem k77_4 : mj_look (mj_prog 77) 4 = some (.ifCond .eq 12, 3, 16, 0) := by decide +kernel
theorem k77_7 : mj_look (mj_prog 77) 7 = some (.iload_n 2, 1, 0, 0) := by decide +kernel
theorem k77_8 : mj_look (mj_prog 77) 8 = some (.iconst 0, 1, 0, 0) := by decide +kernel
theorem k77_9 : mj_look (mj_prog 77) 9 = some (.iconst 1, 1, 0, 0) := by decide +kernel
theorem k77_10 : mj_look (mj_prog 77) 10 = some (.invokestatic 141, 3, 16, 3) := by decide +kernel
theorem k77_13 : mj_look (mj_prog 77) 13 = some (.ifCond .ne 6, 3, 19, 0) := by decide +kernel
theorem k77_16 : mj_look (mj_prog 77) 16 = some (.ldc 96, 2, 3294967295, 0) := by decide +kernel
theorem k77_18 : mj_look (mj_prog 77) 18 = some (.ireturn, 1, 0, 0) := by decide +kernel
theorem k77_19 : mj_look (mj_prog 77) 19 = some (.ldc 179, 2, 3294967291, 0) := by decide +kernel
theorem k77_21 : mj_look (mj_prog 77) 21 = some (.istore_n 3, 1, 0, 0) := by decide +kernel
theorem k77_22 : mj_look (mj_prog 77) 22 = some (.ldc 179, 2, 3294967291, 0) := by decide +kernel
theorem k77_24 : mj_look (mj_prog 77) 24 = some (.istore 4, 2, 0, 0) := by decide +kernel
theorem k77_26 : mj_look (mj_prog 77) 26 = some (.iconst 0, 1, 0, 0) := by decide +kernel
theorem k77_27 : mj_look (mj_prog 77) 27 = some (.istore 5, 2, 0, 0) := by decide +kernel
theorem k77_29 : mj_look (mj_prog 77) 29 = some (.iload 5, 2, 0, 0) := by decide +kernel
theorem k77_31 : mj_look (mj_prog 77) 31 = some (.aload_n 0, 1, 0, 0) := by decide +kernel
theorem k77_32 : mj_look (mj_prog 77) 32 = some (.getfield 49, 3, 11, 3) := by decide +kernel
theorem k77_35 : mj_look (mj_prog 77) 35 = some (.getfield 97, 3, 6, 5) := by decide +kernel
theorem k77_38 : mj_look (mj_prog 77) 38 = some (.if_icmp .ge 56, 3, 94, 0) := by decide +kernel
theorem k77_41 : mj_look (mj_prog 77) 41 = some (.aload_n 0, 1, 0, 0) := by decide +kernel
theorem k77_42 : mj_look (mj_prog 77) 42 = some (.getfield 53, 3, 11, 4) := by decide +kernel
theorem k77_45 : mj_look (mj_prog 77) 45 = some (.aload_n 0, 1, 0, 0) := by decide +kernel
theorem k77_46 : mj_look (mj_prog 77) 46 = some (.getfield 49, 3, 11, 3) := by decide +kernel
theorem k77_49 : mj_look (mj_prog 77) 49 = some (.invokevirtual 175, 3, 70, 1) := by decide +kernel
theorem k77_52 : mj_look (mj_prog 77) 52 = some (.aload_n 0, 1, 0, 0) := by decide +kernel
theorem k77_53 : mj_look (mj_prog 77) 53 = some (.getfield 53, 3, 11, 4) := by decide +kernel
theorem k77_56 : mj_look (mj_prog 77) 56 = some (.iload 5, 2, 0, 0) := by decide +kernel
theorem k77_58 : mj_look (mj_prog 77) 58 = some (.invokevirtual 190, 3, 78, 1) := by decide +kernel
theorem k77_61 : mj_look (mj_prog 77) 61 = some (.aload_n 0, 1, 0, 0) := by decide +kernel
theorem k77_62 : mj_look (mj_prog 77) 62 = some (.iload_n 1, 1, 0, 0) := by decide +kernel
theorem k77_63 : mj_look (mj_prog 77) 63 = some (.invokevirtual 183, 3, 74, 1) := by decide +kernel
theorem k77_66 : mj_look (mj_prog 77) 66 = some (.istore 6, 2, 0, 0) := by decide +kernel
theorem k77_68 : mj_look (mj_prog 77) 68 = some (.iload_n 3, 1, 0, 0) := by decide +kernel
theorem k77_69 : mj_look (mj_prog 77) 69 = some (.ldc 179, 2, 3294967291, 0) := by decide +kernel
theorem k77_71 : mj_look (mj_prog 77) 71 = some (.if_icmp .eq 10, 3, 81, 0) := by decide +kernel
theorem k77_74 : mj_look (mj_prog 77) 74 = some (.iload 6, 2, 0, 0) := by decide +kernel
theorem k77_76 : mj_look (mj_prog 77) 76 = some (.iload 4, 2, 0, 0) := by decide +kernel
theorem k77_78 : mj_look (mj_prog 77) 78 = some (.if_icmp .le 10, 3, 88, 0) := by decide +kernel
theorem k77_81 : mj_look (mj_prog 77) 81 = some (.iload 5, 2, 0, 0) := by decide +kernel
theorem k77_83 : mj_look (mj_prog 77) 83 = some (.istore_n 3, 1, 0, 0) := by decide +kernel
theorem k77_84 : mj_look (mj_prog 77) 84 = some (.iload 6, 2, 0, 0) := by decide +kernel
theorem k77_86 : mj_look (mj_prog 77) 86 = some (.istore 4, 2, 0, 0) := by decide +kernel
theorem k77_88 : mj_look (mj_prog 77) 88 = some (.iinc 5 1, 3, 0, 0) := by decide +kernel
theorem k77_91 : mj_look (mj_prog 77) 91 = some (.goto (-62), 3, 29, 0) := by decide +kernel
theorem k77_94 : mj_look (mj_prog 77) 94 = some (.iload_n 2, 1, 0, 0) := by decide +kernel
theorem k77_95 : mj_look (mj_prog 77) 95 = some (.ifCond .ne 7, 3, 102, 0) := by decide +kernel
theorem k77_98 : mj_look (mj_prog 77) 98 = some (.iload_n 3, 1, 0, 0) := by decide +kernel
theorem k77_99 : mj_look (mj_prog 77) 99 = some (.goto 5, 3, 104, 0) := by decide +kernel
theorem k77_102 : mj_look (mj_prog 77) 102 = some (.iload 4, 2, 0, 0) := by decide +kernel
theorem k77_104 : mj_look (mj_prog 77) 104 = some (.ireturn, 1, 0, 0) := by decide +kernel
theorem mx_78 : (mj_m 78).2.2.1 = 3 := by decide +kernel
theorem rt_78 : (mj_m 78).2.2.2.1 = none := by decide +kernel
theorem dp_78 : mj_disp 78 6 = some 78 := by decide +kernel
theorem pq_78 : mj_prog 78 = mj_p78 := rfl
theorem k78_0 : mj_look (mj_prog 78) 0 = some (.aload_n 0, 1, 0, 0) := by decide +kernel
theorem k78_1 : mj_look (mj_prog 78) 1 = some (.dup, 1, 0, 0) := by decide +kernel
theorem k78_2 : mj_look (mj_prog 78) 2 = some (.getfield 23, 3, 6, 5) := by decide +kernel
theorem k78_5 : mj_look (mj_prog 78) 5 = some (.iconst 1, 1, 0, 0) := by decide +kernel
theorem k78_6 : mj_look (mj_prog 78) 6 = some (.isub, 1, 0, 0) := by decide +kernel
theorem k78_7 : mj_look (mj_prog 78) 7 = some (.putfield 23, 3, 6, 5) := by decide +kernel
theorem k78_10 : mj_look (mj_prog 78) 10 = some (.iconst 0, 1, 0, 0) := by decide +kernel
theorem k78_11 : mj_look (mj_prog 78) 11 = some (.istore_n 2, 1, 0, 0) := by decide +kernel
theorem k78_12 : mj_look (mj_prog 78) 12 = some (.iload_n 2, 1, 0, 0) := by decide +kernel
theorem k78_13 : mj_look (mj_prog 78) 13 = some (.bipush 7, 2, 0, 0) := by decide +kernel
theorem k78_15 : mj_look (mj_prog 78) 15 = some (.if_icmp .ge 34, 3, 49, 0) := by decide +kernel
theorem k78_18 : mj_look (mj_prog 78) 18 = some (.aload_n 0, 1, 0, 0) := by decide +kernel
theorem k78_19 : mj_look (mj_prog 78) 19 = some (.getfield 16, 3, 6, 3) := by decide +kernel
theorem k78_22 : mj_look (mj_prog 78) 22 = some (.iload_n 2, 1, 0, 0) := by decide +kernel
theorem k78_23 : mj_look (mj_prog 78) 23 = some (.aaload, 1, 0, 0) := by decide +kernel
theorem k78_24 : mj_look (mj_prog 78) 24 = some (.iload_n 1, 1, 0, 0) := by decide +kernel
theorem k78_25 : mj_look (mj_prog 78) 25 = some (.iconst 1, 1, 0, 0) := by decide +kernel
theorem k78_26 : mj_look (mj_prog 78) 26 = some (.iadd, 1, 0, 0) := by decide +kernel
theorem k78_27 : mj_look (mj_prog 78) 27 = some (.aload_n 0, 1, 0, 0) := by decide +kernel
theorem k78_28 : mj_look (mj_prog 78) 28 = some (.getfield 16, 3, 6, 3) := by decide +kernel
theorem k78_31 : mj_look (mj_prog 78) 31 = some (.iload_n 2, 1, 0, 0) := by decide +kernel
theorem k78_32 : mj_look (mj_prog 78) 32 = some (.aaload, 1, 0, 0) := by decide +kernel
theorem k78_33 : mj_look (mj_prog 78) 33 = some (.iload_n 1, 1, 0, 0) := by decide +kernel
theorem k78_34 : mj_look (mj_prog 78) 34 = some (.aload_n 0, 1, 0, 0) := by decide +kernel
theorem k78_35 : mj_look (mj_prog 78) 35 = some (.getfield 23, 3, 6, 5) := by decide +kernel
theorem k78_38 : mj_look (mj_prog 78) 38 = some (.iload_n 1, 1, 0, 0) := by decide +kernel
theorem k78_39 : mj_look (mj_prog 78) 39 = some (.isub, 1, 0, 0) := by decide +kernel
theorem k78_40 : mj_look (mj_prog 78) 40 = some (.invokestatic 47, 3, 3001, 5) := by decide +kernel
theorem k78_43 : mj_look (mj_prog 78) 43 = some (.iinc 2 1, 3, 0, 0) := by decide +kernel
theorem k78_46 : mj_look (mj_prog 78) 46 = some (.goto (-34), 3, 12, 0) := by decide +kernel
theorem k78_49 : mj_look (mj_prog 78) 49 = some (.return_, 1, 0, 0) := by decide +kernel
theorem mx_79 : (mj_m 79).2.2.1 = 8 := by decide +kernel
theorem rt_79 : (mj_m 79).2.2.2.1 = (some FieldType.int) := by decide +kernel
theorem dp_79 : mj_disp 79 11 = some 79 := by decide +kernel
theorem pq_79 : mj_prog 79 = mj_p79 := rfl
theorem k79_0 : mj_look (mj_prog 79) 0 = some (.aload_n 0, 1, 0, 0) := by decide +kernel
theorem k79_1 : mj_look (mj_prog 79) 1 = some (.iload_n 1, 1, 0, 0) := by decide +kernel
theorem k79_2 : mj_look (mj_prog 79) 2 = some (.invokevirtual 105, 3, 19, 1) := by decide +kernel
theorem k79_5 : mj_look (mj_prog 79) 5 = some (.ifCond .eq 19, 3, 24, 0) := by decide +kernel
theorem k79_8 : mj_look (mj_prog 79) 8 = some (.iload_n 2, 1, 0, 0) := by decide +kernel
theorem k79_9 : mj_look (mj_prog 79) 9 = some (.invokestatic 180, 3, 73, 1) := by decide +kernel
theorem k79_12 : mj_look (mj_prog 79) 12 = some (.ifCond .eq 12, 3, 24, 0) := by decide +kernel
theorem k79_15 : mj_look (mj_prog 79) 15 = some (.iload_n 3, 1, 0, 0) := by decide +kernel
theorem k79_16 : mj_look (mj_prog 79) 16 = some (.iconst 0, 1, 0, 0) := by decide +kernel
theorem k79_17 : mj_look (mj_prog 79) 17 = some (.iconst 1, 1, 0, 0) := by decide +kernel
theorem k79_18 : mj_look (mj_prog 79) 18 = some (.invokestatic 141, 3, 16, 3) := by decide +kernel
theorem k79_21 : mj_look (mj_prog 79) 21 = some (.ifCond .ne 6, 3, 27, 0) := by decide +kernel
theorem k79_24 : mj_look (mj_prog 79) 24 = some (.ldc 96, 2, 3294967295, 0) := by decide +kernel
theorem k79_26 : mj_look (mj_prog 79) 26 = some (.ireturn, 1, 0, 0) := by decide +kernel
theorem k79_27 : mj_look (mj_prog 79) 27 = some (.ldc 179, 2, 3294967291, 0) := by decide +kernel
theorem k79_29 : mj_look (mj_prog 79) 29 = some (.istore 4, 2, 0, 0) := by decide +kernel
theorem k79_31 : mj_look (mj_prog 79) 31 = some (.iconst 0, 1, 0, 0) := by decide +kernel
theorem k79_32 : mj_look (mj_prog 79) 32 = some (.istore 5, 2, 0, 0) := by decide +kernel
theorem k79_34 : mj_look (mj_prog 79) 34 = some (.iconst 0, 1, 0, 0) := by decide +kernel
theorem k79_35 : mj_look (mj_prog 79) 35 = some (.istore 6, 2, 0, 0) := by decide +kernel
theorem k79_37 : mj_look (mj_prog 79) 37 = some (.iload 6, 2, 0, 0) := by decide +kernel
theorem k79_39 : mj_look (mj_prog 79) 39 = some (.bipush 6, 2, 0, 0) := by decide +kernel
theorem k79_41 : mj_look (mj_prog 79) 41 = some (.if_icmp .ge 62, 3, 103, 0) := by decide +kernel
theorem k79_44 : mj_look (mj_prog 79) 44 = some (.aload_n 0, 1, 0, 0) := by decide +kernel
theorem k79_45 : mj_look (mj_prog 79) 45 = some (.getfield 53, 3, 11, 4) := by decide +kernel
theorem k79_48 : mj_look (mj_prog 79) 48 = some (.aload_n 0, 1, 0, 0) := by decide +kernel
theorem k79_49 : mj_look (mj_prog 79) 49 = some (.getfield 49, 3, 11, 3) := by decide +kernel
theorem k79_52 : mj_look (mj_prog 79) 52 = some (.invokevirtual 175, 3, 70, 1) := by decide +kernel
theorem k79_55 : mj_look (mj_prog 79) 55 = some (.aload_n 0, 1, 0, 0) := by decide +kernel
theorem k79_56 : mj_look (mj_prog 79) 56 = some (.getfield 53, 3, 11, 4) := by decide +kernel
theorem k79_59 : mj_look (mj_prog 79) 59 = some (.getfield 108, 3, 6, 3) := by decide +kernel
theorem k79_62 : mj_look (mj_prog 79) 62 = some (.iconst 0, 1, 0, 0) := by decide +kernel
theorem k79_63 : mj_look (mj_prog 79) 63 = some (.aaload, 1, 0, 0) := by decide +kernel
theorem k79_64 : mj_look (mj_prog 79) 64 = some (.iload_n 1, 1, 0, 0) := by decide +kernel
theorem k79_65 : mj_look (mj_prog 79) 65 = some (.iload 6, 2, 0, 0) := by decide +kernel
theorem k79_67 : mj_look (mj_prog 79) 67 = some (.iastore, 1, 0, 0) := by decide +kernel
theorem k79_68 : mj_look (mj_prog 79) 68 = some (.aload_n 0, 1, 0, 0) := by decide +kernel
theorem k79_69 : mj_look (mj_prog 79) 69 = some (.iload_n 2, 1, 0, 0) := by decide +kernel
theorem k79_70 : mj_look (mj_prog 79) 70 = some (.invokevirtual 183, 3, 74, 1) := by decide +kernel
theorem k79_73 : mj_look (mj_prog 79) 73 = some (.istore 7, 2, 0, 0) := by decide +kernel
theorem k79_75 : mj_look (mj_prog 79) 75 = some (.iload 4, 2, 0, 0) := by decide +kernel
theorem k79_77 : mj_look (mj_prog 79) 77 = some (.ldc 179, 2, 3294967291, 0) := by decide +kernel
theorem k79_79 : mj_look (mj_prog 79) 79 = some (.if_icmp .eq 10, 3, 89, 0) := by decide +kernel
theorem k79_82 : mj_look (mj_prog 79) 82 = some (.iload 7, 2, 0, 0) := by decide +kernel
theorem k79_84 : mj_look (mj_prog 79) 84 = some (.iload 5, 2, 0, 0) := by decide +kernel
theorem k79_86 : mj_look (mj_prog 79) 86 = some (.if_icmp .le 11, 3, 97, 0) := by decide +kernel
theorem k79_89 : mj_look (mj_prog 79) 89 = some (.iload 6, 2, 0, 0) := by decide +kernel
theorem k79_91 : mj_look (mj_prog 79) 91 = some (.istore 4, 2, 0, 0) := by decide +kernel
theorem k79_93 : mj_look (mj_prog 79) 93 = some (.iload 7, 2, 0, 0) := by decide +kernel
theorem k79_95 : mj_look (mj_prog 79) 95 = some (.istore 5, 2, 0, 0) := by decide +kernel
theorem k79_97 : mj_look (mj_prog 79) 97 = some (.iinc 6 1, 3, 0, 0) := by decide +kernel
theorem k79_100 : mj_look (mj_prog 79) 100 = some (.goto (-63), 3, 37, 0) := by decide +kernel
theorem k79_103 : mj_look (mj_prog 79) 103 = some (.iload_n 3, 1, 0, 0) := by decide +kernel
theorem k79_104 : mj_look (mj_prog 79) 104 = some (.ifCond .ne 8, 3, 112, 0) := by decide +kernel
theorem k79_107 : mj_look (mj_prog 79) 107 = some (.iload 4, 2, 0, 0) := by decide +kernel
theorem k79_109 : mj_look (mj_prog 79) 109 = some (.goto 5, 3, 114, 0) := by decide +kernel
theorem k79_112 : mj_look (mj_prog 79) 112 = some (.iload 5, 2, 0, 0) := by decide +kernel
theorem k79_114 : mj_look (mj_prog 79) 114 = some (.ireturn, 1, 0, 0) := by decide +kernel
theorem mx_80 : (mj_m 80).2.2.1 = 4 := by decide +kernel
theorem rt_80 : (mj_m 80).2.2.2.1 = (some FieldType.int) := by decide +kernel
theorem dp_80 : mj_disp 80 11 = some 80 := by decide +kernel
theorem pq_80 : mj_prog 80 = mj_p80 := rfl
theorem k80_0 : mj_look (mj_prog 80) 0 = some (.iload_n 1, 1, 0, 0) := by decide +kernel
theorem k80_1 : mj_look (mj_prog 80) 1 = some (.invokestatic 134, 3, 45, 1) := by decide +kernel
theorem k80_4 : mj_look (mj_prog 80) 4 = some (.ifCond .eq 10, 3, 14, 0) := by decide +kernel
theorem k80_7 : mj_look (mj_prog 80) 7 = some (.iload_n 2, 1, 0, 0) := by decide +kernel
theorem k80_8 : mj_look (mj_prog 80) 8 = some (.invokestatic 180, 3, 73, 1) := by decide +kernel
theorem k80_11 : mj_look (mj_prog 80) 11 = some (.ifCond .ne 6, 3, 17, 0) := by decide +kernel
theorem k80_14 : mj_look (mj_prog 80) 14 = some (.ldc 96, 2, 3294967295, 0) := by decide +kernel
theorem k80_16 : mj_look (mj_prog 80) 16 = some (.ireturn, 1, 0, 0) := by decide +kernel
theorem k80_17 : mj_look (mj_prog 80) 17 = some (.aload_n 0, 1, 0, 0) := by decide +kernel
theorem k80_18 : mj_look (mj_prog 80) 18 = some (.getfield 53, 3, 11, 4) := by decide +kernel
theorem k80_21 : mj_look (mj_prog 80) 21 = some (.aload_n 0, 1, 0, 0) := by decide +kernel
theorem k80_22 : mj_look (mj_prog 80) 22 = some (.getfield 49, 3, 11, 3) := by decide +kernel
theorem k80_25 : mj_look (mj_prog 80) 25 = some (.invokevirtual 175, 3, 70, 1) := by decide +kernel
theorem k80_28 : mj_look (mj_prog 80) 28 = some (.aload_n 0, 1, 0, 0) := by decide +kernel
theorem k80_29 : mj_look (mj_prog 80) 29 = some (.iload_n 2, 1, 0, 0) := by decide +kernel
theorem k80_30 : mj_look (mj_prog 80) 30 = some (.invokevirtual 183, 3, 74, 1) := by decide +kernel
theorem k80_33 : mj_look (mj_prog 80) 33 = some (.istore_n 3, 1, 0, 0) := by decide +kernel
theorem k80_34 : mj_look (mj_prog 80) 34 = some (.aload_n 0, 1, 0, 0) := by decide +kernel
theorem k80_35 : mj_look (mj_prog 80) 35 = some (.getfield 53, 3, 11, 4) := by decide +kernel
theorem k80_38 : mj_look (mj_prog 80) 38 = some (.aload_n 0, 1, 0, 0) := by decide +kernel
theorem k80_39 : mj_look (mj_prog 80) 39 = some (.getfield 49, 3, 11, 3) := by decide +kernel
theorem k80_42 : mj_look (mj_prog 80) 42 = some (.invokevirtual 175, 3, 70, 1) := by decide +kernel
theorem k80_45 : mj_look (mj_prog 80) 45 = some (.aload_n 0, 1, 0, 0) := by decide +kernel
theorem k80_46 : mj_look (mj_prog 80) 46 = some (.getfield 53, 3, 11, 4) := by decide +kernel
theorem k80_49 : mj_look (mj_prog 80) 49 = some (.getfield 145, 3, 6, 2) := by decide +kernel
theorem k80_52 : mj_look (mj_prog 80) 52 = some (.iconst 1, 1, 0, 0) := by decide +kernel
theorem k80_53 : mj_look (mj_prog 80) 53 = some (.aaload, 1, 0, 0) := by decide +kernel
theorem k80_54 : mj_look (mj_prog 80) 54 = some (.iload_n 1, 1, 0, 0) := by decide +kernel
theorem k80_55 : mj_look (mj_prog 80) 55 = some (.bipush 9, 2, 0, 0) := by decide +kernel
theorem k80_57 : mj_look (mj_prog 80) 57 = some (.iastore, 1, 0, 0) := by decide +kernel
theorem k80_58 : mj_look (mj_prog 80) 58 = some (.iload_n 3, 1, 0, 0) := by decide +kernel
theorem k80_59 : mj_look (mj_prog 80) 59 = some (.aload_n 0, 1, 0, 0) := by decide +kernel
theorem k80_60 : mj_look (mj_prog 80) 60 = some (.iload_n 2, 1, 0, 0) := by decide +kernel
theorem k80_61 : mj_look (mj_prog 80) 61 = some (.invokevirtual 183, 3, 74, 1) := by decide +kernel
theorem k80_64 : mj_look (mj_prog 80) 64 = some (.isub, 1, 0, 0) := by decide +kernel
theorem k80_65 : mj_look (mj_prog 80) 65 = some (.ireturn, 1, 0, 0) := by decide +kernel
theorem mx_81 : (mj_m 81).2.2.1 = 3 := by decide +kernel
theorem rt_81 : (mj_m 81).2.2.2.1 = (some FieldType.int) := by decide +kernel
theorem dp_81 : mj_disp 81 11 = some 81 := by decide +kernel
theorem pq_81 : mj_prog 81 = mj_p81 := rfl
theorem k81_0 : mj_look (mj_prog 81) 0 = some (.iload_n 1, 1, 0, 0) := by decide +kernel
theorem k81_1 : mj_look (mj_prog 81) 1 = some (.iconst 1, 1, 0, 0) := by decide +kernel
theorem k81_2 : mj_look (mj_prog 81) 2 = some (.bipush 60, 2, 0, 0) := by decide +kernel
theorem k81_4 : mj_look (mj_prog 81) 4 = some (.invokestatic 141, 3, 16, 3) := by decide +kernel
theorem k81_7 : mj_look (mj_prog 81) 7 = some (.ifCond .ne 6, 3, 13, 0) := by decide +kernel
theorem k81_10 : mj_look (mj_prog 81) 10 = some (.ldc 96, 2, 3294967295, 0) := by decide +kernel
theorem k81_12 : mj_look (mj_prog 81) 12 = some (.ireturn, 1, 0, 0) := by decide +kernel
theorem k81_13 : mj_look (mj_prog 81) 13 = some (.bipush 60, 2, 0, 0) := by decide +kernel
theorem k81_15 : mj_look (mj_prog 81) 15 = some (.istore_n 2, 1, 0, 0) := by decide +kernel
theorem k81_16 : mj_look (mj_prog 81) 16 = some (.iload_n 2, 1, 0, 0) := by decide +kernel
theorem k81_17 : mj_look (mj_prog 81) 17 = some (.iconst 1, 1, 0, 0) := by decide +kernel
theorem k81_18 : mj_look (mj_prog 81) 18 = some (.if_icmp .lt 20, 3, 38, 0) := by decide +kernel
theorem k81_21 : mj_look (mj_prog 81) 21 = some (.aload_n 0, 1, 0, 0) := by decide +kernel
theorem k81_22 : mj_look (mj_prog 81) 22 = some (.iload_n 2, 1, 0, 0) := by decide +kernel
theorem k81_23 : mj_look (mj_prog 81) 23 = some (.iload_n 1, 1, 0, 0) := by decide +kernel
theorem k81_24 : mj_look (mj_prog 81) 24 = some (.invokevirtual 193, 3, 82, 2) := by decide +kernel
theorem k81_27 : mj_look (mj_prog 81) 27 = some (.ifCond .eq 5, 3, 32, 0) := by decide +kernel
theorem k81_30 : mj_look (mj_prog 81) 30 = some (.iload_n 2, 1, 0, 0) := by decide +kernel
theorem k81_31 : mj_look (mj_prog 81) 31 = some (.ireturn, 1, 0, 0) := by decide +kernel
theorem k81_32 : mj_look (mj_prog 81) 32 = some (.iinc 2 (-1), 3, 0, 0) := by decide +kernel
theorem k81_35 : mj_look (mj_prog 81) 35 = some (.goto (-19), 3, 16, 0) := by decide +kernel
theorem k81_38 : mj_look (mj_prog 81) 38 = some (.ldc 179, 2, 3294967291, 0) := by decide +kernel
theorem k81_40 : mj_look (mj_prog 81) 40 = some (.ireturn, 1, 0, 0) := by decide +kernel
theorem mx_82 : (mj_m 82).2.2.1 = 5 := by decide +kernel
theorem rt_82 : (mj_m 82).2.2.2.1 = (some FieldType.boolean) := by decide +kernel
theorem dp_82 : mj_disp 82 11 = some 82 := by decide +kernel
theorem pq_82 : mj_prog 82 = mj_p82 := rfl
theorem k82_0 : mj_look (mj_prog 82) 0 = some (.aload_n 0, 1, 0, 0) := by decide +kernel
theorem k82_1 : mj_look (mj_prog 82) 1 = some (.getfield 53, 3, 11, 4) := by decide +kernel
theorem k82_4 : mj_look (mj_prog 82) 4 = some (.aload_n 0, 1, 0, 0) := by decide +kernel
theorem k82_5 : mj_look (mj_prog 82) 5 = some (.getfield 49, 3, 11, 3) := by decide +kernel
theorem k82_8 : mj_look (mj_prog 82) 8 = some (.invokevirtual 175, 3, 70, 1) := by decide +kernel
theorem k82_11 : mj_look (mj_prog 82) 11 = some (.aload_n 0, 1, 0, 0) := by decide +kernel
theorem k82_12 : mj_look (mj_prog 82) 12 = some (.getfield 53, 3, 11, 4) := by decide +kernel
theorem k82_15 : mj_look (mj_prog 82) 15 = some (.iload_n 1, 1, 0, 0) := by decide +kernel
theorem k82_16 : mj_look (mj_prog 82) 16 = some (.putfield 148, 3, 6, 6) := by decide +kernel
theorem k82_19 : mj_look (mj_prog 82) 19 = some (.aload_n 0, 1, 0, 0) := by decide +kernel
theorem k82_20 : mj_look (mj_prog 82) 20 = some (.getfield 49, 3, 11, 3) := by decide +kernel
theorem k82_23 : mj_look (mj_prog 82) 23 = some (.iconst 5, 1, 0, 0) := by decide +kernel
theorem k82_24 : mj_look (mj_prog 82) 24 = some (.invokevirtual 162, 3, 62, 1) := by decide +kernel
theorem k82_27 : mj_look (mj_prog 82) 27 = some (.istore_n 3, 1, 0, 0) := by decide +kernel
theorem k82_28 : mj_look (mj_prog 82) 28 = some (.iconst 0, 1, 0, 0) := by decide +kernel
theorem k82_29 : mj_look (mj_prog 82) 29 = some (.istore 4, 2, 0, 0) := by decide +kernel
theorem k82_31 : mj_look (mj_prog 82) 31 = some (.iload 4, 2, 0, 0) := by decide +kernel
theorem k82_33 : mj_look (mj_prog 82) 33 = some (.iload_n 2, 1, 0, 0) := by decide +kernel
theorem k82_34 : mj_look (mj_prog 82) 34 = some (.if_icmp .ge 29, 3, 63, 0) := by decide +kernel
theorem k82_37 : mj_look (mj_prog 82) 37 = some (.aload_n 0, 1, 0, 0) := by decide +kernel
theorem k82_38 : mj_look (mj_prog 82) 38 = some (.getfield 53, 3, 11, 4) := by decide +kernel
theorem k82_41 : mj_look (mj_prog 82) 41 = some (.iconst 5, 1, 0, 0) := by decide +kernel
theorem k82_42 : mj_look (mj_prog 82) 42 = some (.invokevirtual 162, 3, 62, 1) := by decide +kernel
theorem k82_45 : mj_look (mj_prog 82) 45 = some (.iload_n 3, 1, 0, 0) := by decide +kernel
theorem k82_46 : mj_look (mj_prog 82) 46 = some (.if_icmp .ne 17, 3, 63, 0) := by decide +kernel
theorem k82_49 : mj_look (mj_prog 82) 49 = some (.aload_n 0, 1, 0, 0) := by decide +kernel
theorem k82_50 : mj_look (mj_prog 82) 50 = some (.getfield 53, 3, 11, 4) := by decide +kernel
theorem k82_53 : mj_look (mj_prog 82) 53 = some (.iconst 1, 1, 0, 0) := by decide +kernel
theorem k82_54 : mj_look (mj_prog 82) 54 = some (.invokevirtual 168, 3, 63, 1) := by decide +kernel
theorem k82_57 : mj_look (mj_prog 82) 57 = some (.iinc 4 1, 3, 0, 0) := by decide +kernel
theorem k82_60 : mj_look (mj_prog 82) 60 = some (.goto (-29), 3, 31, 0) := by decide +kernel
theorem k82_63 : mj_look (mj_prog 82) 63 = some (.aload_n 0, 1, 0, 0) := by decide +kernel
theorem k82_64 : mj_look (mj_prog 82) 64 = some (.getfield 53, 3, 11, 4) := by decide +kernel
theorem k82_67 : mj_look (mj_prog 82) 67 = some (.iconst 5, 1, 0, 0) := by decide +kernel
theorem k82_68 : mj_look (mj_prog 82) 68 = some (.invokevirtual 162, 3, 62, 1) := by decide +kernel
theorem k82_71 : mj_look (mj_prog 82) 71 = some (.iload_n 3, 1, 0, 0) := by decide +kernel
theorem k82_72 : mj_look (mj_prog 82) 72 = some (.if_icmp .ne 7, 3, 79, 0) := by decide +kernel
theorem k82_75 : mj_look (mj_prog 82) 75 = some (.iconst 1, 1, 0, 0) := by decide +kernel
theorem k82_76 : mj_look (mj_prog 82) 76 = some (.goto 4, 3, 80, 0) := by decide +kernel
theorem k82_79 : mj_look (mj_prog 82) 79 = some (.iconst 0, 1, 0, 0) := by decide +kernel
theorem k82_80 : mj_look (mj_prog 82) 80 = some (.ireturn, 1, 0, 0) := by decide +kernel
theorem mx_83 : (mj_m 83).2.2.1 = 8 := by decide +kernel
theorem rt_83 : (mj_m 83).2.2.2.1 = (some FieldType.int) := by decide +kernel
theorem dp_83 : mj_disp 83 11 = some 83 := by decide +kernel
theorem pq_83 : mj_prog 83 = mj_p83 := rfl
theorem k83_0 : mj_look (mj_prog 83) 0 = some (.iload_n 1, 1, 0, 0) := by decide +kernel
theorem k83_1 : mj_look (mj_prog 83) 1 = some (.invokestatic 197, 3, 84, 1) := by decide +kernel
theorem k83_4 : mj_look (mj_prog 83) 4 = some (.ifCond .eq 20, 3, 24, 0) := by decide +kernel
theorem k83_7 : mj_look (mj_prog 83) 7 = some (.aload_n 0, 1, 0, 0) := by decide +kernel
theorem k83_8 : mj_look (mj_prog 83) 8 = some (.iload_n 2, 1, 0, 0) := by decide +kernel
theorem k83_9 : mj_look (mj_prog 83) 9 = some (.invokevirtual 105, 3, 19, 1) := by decide +kernel
theorem k83_12 : mj_look (mj_prog 83) 12 = some (.ifCond .eq 12, 3, 24, 0) := by decide +kernel
theorem k83_15 : mj_look (mj_prog 83) 15 = some (.iload_n 3, 1, 0, 0) := by decide +kernel
theorem k83_16 : mj_look (mj_prog 83) 16 = some (.iconst 0, 1, 0, 0) := by decide +kernel
theorem k83_17 : mj_look (mj_prog 83) 17 = some (.iconst 1, 1, 0, 0) := by decide +kernel
theorem k83_18 : mj_look (mj_prog 83) 18 = some (.invokestatic 141, 3, 16, 3) := by decide +kernel
theorem k83_21 : mj_look (mj_prog 83) 21 = some (.ifCond .ne 6, 3, 27, 0) := by decide +kernel
theorem k83_24 : mj_look (mj_prog 83) 24 = some (.ldc 96, 2, 3294967295, 0) := by decide +kernel
theorem k83_26 : mj_look (mj_prog 83) 26 = some (.ireturn, 1, 0, 0) := by decide +kernel
theorem k83_27 : mj_look (mj_prog 83) 27 = some (.aload_n 0, 1, 0, 0) := by decide +kernel
theorem k83_28 : mj_look (mj_prog 83) 28 = some (.getfield 65, 3, 11, 7) := by decide +kernel
theorem k83_31 : mj_look (mj_prog 83) 31 = some (.iload_n 1, 1, 0, 0) := by decide +kernel
theorem k83_32 : mj_look (mj_prog 83) 32 = some (.aaload, 1, 0, 0) := by decide +kernel
theorem k83_33 : mj_look (mj_prog 83) 33 = some (.invokevirtual 200, 3, 85, 0) := by decide +kernel
theorem k83_36 : mj_look (mj_prog 83) 36 = some (.ifCond .eq 6, 3, 42, 0) := by decide +kernel
theorem k83_39 : mj_look (mj_prog 83) 39 = some (.ldc 204, 2, 3294967285, 0) := by decide +kernel
theorem k83_41 : mj_look (mj_prog 83) 41 = some (.ireturn, 1, 0, 0) := by decide +kernel
theorem k83_42 : mj_look (mj_prog 83) 42 = some (.ldc 179, 2, 3294967291, 0) := by decide +kernel
theorem k83_44 : mj_look (mj_prog 83) 44 = some (.istore 4, 2, 0, 0) := by decide +kernel
theorem k83_46 : mj_look (mj_prog 83) 46 = some (.iconst 0, 1, 0, 0) := by decide +kernel
theorem k83_47 : mj_look (mj_prog 83) 47 = some (.istore 5, 2, 0, 0) := by decide +kernel
theorem k83_49 : mj_look (mj_prog 83) 49 = some (.iconst 1, 1, 0, 0) := by decide +kernel
theorem k83_50 : mj_look (mj_prog 83) 50 = some (.istore 6, 2, 0, 0) := by decide +kernel
theorem k83_52 : mj_look (mj_prog 83) 52 = some (.iload 6, 2, 0, 0) := by decide +kernel
theorem k83_54 : mj_look (mj_prog 83) 54 = some (.bipush 96, 2, 0, 0) := by decide +kernel
theorem k83_56 : mj_look (mj_prog 83) 56 = some (.if_icmp .gt 46, 3, 102, 0) := by decide +kernel
theorem k83_59 : mj_look (mj_prog 83) 59 = some (.aload_n 0, 1, 0, 0) := by decide +kernel
theorem k83_60 : mj_look (mj_prog 83) 60 = some (.iload 6, 2, 0, 0) := by decide +kernel
theorem k83_62 : mj_look (mj_prog 83) 62 = some (.iload_n 2, 1, 0, 0) := by decide +kernel
theorem k83_63 : mj_look (mj_prog 83) 63 = some (.aload_n 0, 1, 0, 0) := by decide +kernel
theorem k83_64 : mj_look (mj_prog 83) 64 = some (.getfield 65, 3, 11, 7) := by decide +kernel
theorem k83_67 : mj_look (mj_prog 83) 67 = some (.iload_n 1, 1, 0, 0) := by decide +kernel
theorem k83_68 : mj_look (mj_prog 83) 68 = some (.aaload, 1, 0, 0) := by decide +kernel
theorem k83_69 : mj_look (mj_prog 83) 69 = some (.invokevirtual 205, 3, 86, 3) := by decide +kernel
theorem k83_72 : mj_look (mj_prog 83) 72 = some (.istore 7, 2, 0, 0) := by decide +kernel
theorem k83_74 : mj_look (mj_prog 83) 74 = some (.iload 4, 2, 0, 0) := by decide +kernel
theorem k83_76 : mj_look (mj_prog 83) 76 = some (.ldc 179, 2, 3294967291, 0) := by decide +kernel
theorem k83_78 : mj_look (mj_prog 83) 78 = some (.if_icmp .eq 10, 3, 88, 0) := by decide +kernel
theorem k83_81 : mj_look (mj_prog 83) 81 = some (.iload 7, 2, 0, 0) := by decide +kernel
theorem k83_83 : mj_look (mj_prog 83) 83 = some (.iload 5, 2, 0, 0) := by decide +kernel
theorem k83_85 : mj_look (mj_prog 83) 85 = some (.if_icmp .ge 11, 3, 96, 0) := by decide +kernel
theorem k83_88 : mj_look (mj_prog 83) 88 = some (.iload 6, 2, 0, 0) := by decide +kernel
theorem k83_90 : mj_look (mj_prog 83) 90 = some (.istore 4, 2, 0, 0) := by decide +kernel
theorem k83_92 : mj_look (mj_prog 83) 92 = some (.iload 7, 2, 0, 0) := by decide +kernel
theorem k83_94 : mj_look (mj_prog 83) 94 = some (.istore 5, 2, 0, 0) := by decide +kernel
theorem k83_96 : mj_look (mj_prog 83) 96 = some (.iinc 6 5, 3, 0, 0) := by decide +kernel
theorem k83_99 : mj_look (mj_prog 83) 99 = some (.goto (-47), 3, 52, 0) := by decide +kernel
theorem k83_102 : mj_look (mj_prog 83) 102 = some (.iload_n 3, 1, 0, 0) := by decide +kernel
theorem k83_103 : mj_look (mj_prog 83) 103 = some (.ifCond .ne 8, 3, 111, 0) := by decide +kernel
theorem k83_106 : mj_look (mj_prog 83) 106 = some (.iload 4, 2, 0, 0) := by decide +kernel
theorem k83_108 : mj_look (mj_prog 83) 108 = some (.goto 5, 3, 113, 0) := by decide +kernel
theorem k83_111 : mj_look (mj_prog 83) 111 = some (.iload 5, 2, 0, 0) := by decide +kernel
theorem k83_113 : mj_look (mj_prog 83) 113 = some (.ireturn, 1, 0, 0) := by decide +kernel
theorem mx_84 : (mj_m 84).2.2.1 = 1 := by decide +kernel
theorem rt_84 : (mj_m 84).2.2.2.1 = (some FieldType.boolean) := by decide +kernel
theorem dp_84 : mj_disp 84 11 = some 84 := by decide +kernel
theorem pq_84 : mj_prog 84 = mj_p84 := rfl
theorem k84_0 : mj_look (mj_prog 84) 0 = some (.iload_n 0, 1, 0, 0) := by decide +kernel
theorem k84_1 : mj_look (mj_prog 84) 1 = some (.ifCond .lt 12, 3, 13, 0) := by decide +kernel
theorem k84_4 : mj_look (mj_prog 84) 4 = some (.iload_n 0, 1, 0, 0) := by decide +kernel
theorem k84_5 : mj_look (mj_prog 84) 5 = some (.iconst 4, 1, 0, 0) := by decide +kernel
theorem k84_6 : mj_look (mj_prog 84) 6 = some (.if_icmp .ge 7, 3, 13, 0) := by decide +kernel
theorem k84_9 : mj_look (mj_prog 84) 9 = some (.iconst 1, 1, 0, 0) := by decide +kernel
theorem k84_10 : mj_look (mj_prog 84) 10 = some (.goto 4, 3, 14, 0) := by decide +kernel
theorem k84_13 : mj_look (mj_prog 84) 13 = some (.iconst 0, 1, 0, 0) := by decide +kernel
theorem k84_14 : mj_look (mj_prog 84) 14 = some (.ireturn, 1, 0, 0) := by decide +kernel
theorem mx_85 : (mj_m 85).2.2.1 = 1 := by decide +kernel
theorem rt_85 : (mj_m 85).2.2.2.1 = (some FieldType.boolean) := by decide +kernel
theorem dp_85 : mj_disp 85 7 = some 85 := by decide +kernel
theorem pq_85 : mj_prog 85 = mj_p85 := rfl
theorem k85_0 : mj_look (mj_prog 85) 0 = some (.aload_n 0, 1, 0, 0) := by decide +kernel
theorem k85_1 : mj_look (mj_prog 85) 1 = some (.getfield 15, 3, 7, 1) := by decide +kernel
theorem k85_4 : mj_look (mj_prog 85) 4 = some (.iconst (-1), 1, 0, 0) := by decide +kernel
theorem k85_5 : mj_look (mj_prog 85) 5 = some (.if_icmp .ne 7, 3, 12, 0) := by decide +kernel
theorem k85_8 : mj_look (mj_prog 85) 8 = some (.iconst 1, 1, 0, 0) := by decide +kernel
theorem k85_9 : mj_look (mj_prog 85) 9 = some (.goto 4, 3, 13, 0) := by decide +kernel
theorem k85_12 : mj_look (mj_prog 85) 12 = some (.iconst 0, 1, 0, 0) := by decide +kernel
theorem k85_13 : mj_look (mj_prog 85) 13 = some (.ireturn, 1, 0, 0) := by decide +kernel
theorem mx_86 : (mj_m 86).2.2.1 = 6 := by decide +kernel
theorem rt_86 : (mj_m 86).2.2.2.1 = (some FieldType.int) := by decide +kernel
theorem dp_86 : mj_disp 86 11 = some 86 := by decide +kernel
theorem pq_86 : mj_prog 86 = mj_p86 := rfl
theorem k86_0 : mj_look (mj_prog 86) 0 = some (.aload_n 0, 1, 0, 0) := by decide +kernel
theorem k86_1 : mj_look (mj_prog 86) 1 = some (.getfield 53, 3, 11, 4) := by decide +kernel
theorem k86_4 : mj_look (mj_prog 86) 4 = some (.aload_n 0, 1, 0, 0) := by decide +kernel
theorem k86_5 : mj_look (mj_prog 86) 5 = some (.getfield 49, 3, 11, 3) := by decide +kernel
theorem k86_8 : mj_look (mj_prog 86) 8 = some (.invokevirtual 175, 3, 70, 1) := by decide +kernel
theorem k86_11 : mj_look (mj_prog 86) 11 = some (.aload_n 0, 1, 0, 0) := by decide +kernel
theorem k86_12 : mj_look (mj_prog 86) 12 = some (.getfield 53, 3, 11, 4) := by decide +kernel
theorem k86_15 : mj_look (mj_prog 86) 15 = some (.getfield 108, 3, 6, 3) := by decide +kernel
theorem k86_18 : mj_look (mj_prog 86) 18 = some (.iconst 2, 1, 0, 0) := by decide +kernel
theorem k86_19 : mj_look (mj_prog 86) 19 = some (.aaload, 1, 0, 0) := by decide +kernel
theorem k86_20 : mj_look (mj_prog 86) 20 = some (.iload_n 2, 1, 0, 0) := by decide +kernel
theorem k86_21 : mj_look (mj_prog 86) 21 = some (.iload_n 1, 1, 0, 0) := by decide +kernel
theorem k86_22 : mj_look (mj_prog 86) 22 = some (.iastore, 1, 0, 0) := by decide +kernel
theorem k86_23 : mj_look (mj_prog 86) 23 = some (.iconst 0, 1, 0, 0) := by decide +kernel
theorem k86_24 : mj_look (mj_prog 86) 24 = some (.istore 4, 2, 0, 0) := by decide +kernel
theorem k86_26 : mj_look (mj_prog 86) 26 = some (.iconst 0, 1, 0, 0) := by decide +kernel
theorem k86_27 : mj_look (mj_prog 86) 27 = some (.istore 5, 2, 0, 0) := by decide +kernel
theorem k86_29 : mj_look (mj_prog 86) 29 = some (.iload 5, 2, 0, 0) := by decide +kernel
theorem k86_31 : mj_look (mj_prog 86) 31 = some (.aload_n 3, 1, 0, 0) := by decide +kernel
theorem k86_32 : mj_look (mj_prog 86) 32 = some (.getfield 253, 3, 7, 2) := by decide +kernel
theorem k86_35 : mj_look (mj_prog 86) 35 = some (.if_icmp .ge 58, 3, 93, 0) := by decide +kernel
theorem k86_38 : mj_look (mj_prog 86) 38 = some (.iload 5, 2, 0, 0) := by decide +kernel
theorem k86_40 : mj_look (mj_prog 86) 40 = some (.ifCond .le 11, 3, 51, 0) := by decide +kernel
theorem k86_43 : mj_look (mj_prog 86) 43 = some (.aload_n 0, 1, 0, 0) := by decide +kernel
theorem k86_44 : mj_look (mj_prog 86) 44 = some (.getfield 53, 3, 11, 4) := by decide +kernel
theorem k86_47 : mj_look (mj_prog 86) 47 = some (.iconst 1, 1, 0, 0) := by decide +kernel
theorem k86_48 : mj_look (mj_prog 86) 48 = some (.invokevirtual 168, 3, 63, 1) := by decide +kernel
theorem k86_51 : mj_look (mj_prog 86) 51 = some (.aload_n 3, 1, 0, 0) := by decide +kernel
theorem k86_52 : mj_look (mj_prog 86) 52 = some (.iload 5, 2, 0, 0) := by decide +kernel
theorem k86_54 : mj_look (mj_prog 86) 54 = some (.invokevirtual 259, 3, 87, 1) := by decide +kernel
theorem k86_57 : mj_look (mj_prog 86) 57 = some (.ifCond .eq 30, 3, 87, 0) := by decide +kernel
theorem k86_60 : mj_look (mj_prog 86) 60 = some (.iload 4, 2, 0, 0) := by decide +kernel
theorem k86_62 : mj_look (mj_prog 86) 62 = some (.aload_n 0, 1, 0, 0) := by decide +kernel
theorem k86_63 : mj_look (mj_prog 86) 63 = some (.getfield 53, 3, 11, 4) := by decide +kernel
theorem k86_66 : mj_look (mj_prog 86) 66 = some (.getfield 108, 3, 6, 3) := by decide +kernel
theorem k86_69 : mj_look (mj_prog 86) 69 = some (.iconst 1, 1, 0, 0) := by decide +kernel
theorem k86_70 : mj_look (mj_prog 86) 70 = some (.aaload, 1, 0, 0) := by decide +kernel
theorem k86_71 : mj_look (mj_prog 86) 71 = some (.iload_n 2, 1, 0, 0) := by decide +kernel
theorem k86_72 : mj_look (mj_prog 86) 72 = some (.iaload, 1, 0, 0) := by decide +kernel
theorem k86_73 : mj_look (mj_prog 86) 73 = some (.aload_n 3, 1, 0, 0) := by decide +kernel
theorem k86_74 : mj_look (mj_prog 86) 74 = some (.getfield 250, 3, 7, 0) := by decide +kernel
theorem k86_77 : mj_look (mj_prog 86) 77 = some (.iload 5, 2, 0, 0) := by decide +kernel
theorem k86_79 : mj_look (mj_prog 86) 79 = some (.iaload, 1, 0, 0) := by decide +kernel
theorem k86_80 : mj_look (mj_prog 86) 80 = some (.isub, 1, 0, 0) := by decide +kernel
theorem k86_81 : mj_look (mj_prog 86) 81 = some (.invokestatic 295, 3, 3007, 1) := by decide +kernel
theorem k86_84 : mj_look (mj_prog 86) 84 = some (.iadd, 1, 0, 0) := by decide +kernel
theorem k86_85 : mj_look (mj_prog 86) 85 = some (.istore 4, 2, 0, 0) := by decide +kernel
theorem k86_87 : mj_look (mj_prog 86) 87 = some (.iinc 5 1, 3, 0, 0) := by decide +kernel
theorem k86_90 : mj_look (mj_prog 86) 90 = some (.goto (-61), 3, 29, 0) := by decide +kernel
theorem k86_93 : mj_look (mj_prog 86) 93 = some (.iload 4, 2, 0, 0) := by decide +kernel
theorem k86_95 : mj_look (mj_prog 86) 95 = some (.ireturn, 1, 0, 0) := by decide +kernel
theorem mx_87 : (mj_m 87).2.2.1 = 2 := by decide +kernel
theorem rt_87 : (mj_m 87).2.2.2.1 = (some FieldType.boolean) := by decide +kernel
theorem dp_87 : mj_disp 87 7 = some 87 := by decide +kernel
theorem pq_87 : mj_prog 87 = mj_p87 := rfl
theorem k87_0 : mj_look (mj_prog 87) 0 = some (.aload_n 0, 1, 0, 0) := by decide +kernel
theorem k87_1 : mj_look (mj_prog 87) 1 = some (.getfield 9, 3, 7, 0) := by decide +kernel
theorem k87_4 : mj_look (mj_prog 87) 4 = some (.iload_n 1, 1, 0, 0) := by decide +kernel
theorem k87_5 : mj_look (mj_prog 87) 5 = some (.iaload, 1, 0, 0) := by decide +kernel
theorem k87_6 : mj_look (mj_prog 87) 6 = some (.ldc 22, 2, 3294967291, 0) := by decide +kernel
theorem k87_8 : mj_look (mj_prog 87) 8 = some (.if_icmp .eq 7, 3, 15, 0) := by decide +kernel
theorem k87_11 : mj_look (mj_prog 87) 11 = some (.iconst 1, 1, 0, 0) := by decide +kernel
theorem k87_12 : mj_look (mj_prog 87) 12 = some (.goto 4, 3, 16, 0) := by decide +kernel
theorem k87_15 : mj_look (mj_prog 87) 15 = some (.iconst 0, 1, 0, 0) := by decide +kernel
theorem k87_16 : mj_look (mj_prog 87) 16 = some (.ireturn, 1, 0, 0) := by decide +kernel
theorem mx_88 : (mj_m 88).2.2.1 = 3 := by decide +kernel
theorem rt_88 : (mj_m 88).2.2.2.1 = (some FieldType.int) := by decide +kernel
theorem dp_88 : mj_disp 88 11 = some 88 := by decide +kernel
theorem pq_88 : mj_prog 88 = mj_p88 := rfl
theorem k88_0 : mj_look (mj_prog 88) 0 = some (.aload_n 0, 1, 0, 0) := by decide +kernel
theorem k88_1 : mj_look (mj_prog 88) 1 = some (.getfield 49, 3, 11, 3) := by decide +kernel
theorem k88_4 : mj_look (mj_prog 88) 4 = some (.iconst 3, 1, 0, 0) := by decide +kernel
theorem k88_5 : mj_look (mj_prog 88) 5 = some (.invokevirtual 162, 3, 62, 1) := by decide +kernel
theorem k88_8 : mj_look (mj_prog 88) 8 = some (.istore_n 1, 1, 0, 0) := by decide +kernel
theorem k88_9 : mj_look (mj_prog 88) 9 = some (.aload_n 0, 1, 0, 0) := by decide +kernel
theorem k88_10 : mj_look (mj_prog 88) 10 = some (.getfield 49, 3, 11, 3) := by decide +kernel
theorem k88_13 : mj_look (mj_prog 88) 13 = some (.getfield 209, 3, 6, 4) := by decide +kernel
theorem k88_16 : mj_look (mj_prog 88) 16 = some (.iconst 1, 1, 0, 0) := by decide +kernel
theorem k88_17 : mj_look (mj_prog 88) 17 = some (.iaload, 1, 0, 0) := by decide +kernel
theorem k88_18 : mj_look (mj_prog 88) 18 = some (.istore_n 2, 1, 0, 0) := by decide +kernel
theorem k88_19 : mj_look (mj_prog 88) 19 = some (.iload_n 2, 1, 0, 0) := by decide +kernel
theorem k88_20 : mj_look (mj_prog 88) 20 = some (.ifCond .ge 7, 3, 27, 0) := by decide +kernel
theorem k88_23 : mj_look (mj_prog 88) 23 = some (.iload_n 1, 1, 0, 0) := by decide +kernel
theorem k88_24 : mj_look (mj_prog 88) 24 = some (.goto 21, 3, 45, 0) := by decide +kernel
theorem k88_27 : mj_look (mj_prog 88) 27 = some (.aload_n 0, 1, 0, 0) := by decide +kernel
theorem k88_28 : mj_look (mj_prog 88) 28 = some (.getfield 33, 3, 11, 1) := by decide +kernel
theorem k88_31 : mj_look (mj_prog 88) 31 = some (.iload_n 2, 1, 0, 0) := by decide +kernel
theorem k88_32 : mj_look (mj_prog 88) 32 = some (.aaload, 1, 0, 0) := by decide +kernel
theorem k88_33 : mj_look (mj_prog 88) 33 = some (.iload_n 1, 1, 0, 0) := by decide +kernel
theorem k88_34 : mj_look (mj_prog 88) 34 = some (.aload_n 0, 1, 0, 0) := by decide +kernel
theorem k88_35 : mj_look (mj_prog 88) 35 = some (.getfield 49, 3, 11, 3) := by decide +kernel
theorem k88_38 : mj_look (mj_prog 88) 38 = some (.getfield 165, 3, 6, 7) := by decide +kernel
theorem k88_41 : mj_look (mj_prog 88) 41 = some (.iconst 0, 1, 0, 0) := by decide +kernel
theorem k88_42 : mj_look (mj_prog 88) 42 = some (.invokevirtual 212, 3, 22, 3) := by decide +kernel
theorem k88_45 : mj_look (mj_prog 88) 45 = some (.ireturn, 1, 0, 0) := by decide +kernel
theorem mx_89 : (mj_m 89).2.2.1 = 4 := by decide +kernel
theorem rt_89 : (mj_m 89).2.2.2.1 = (some FieldType.int) := by decide +kernel
theorem dp_89 : mj_disp 89 11 = some 89 := by decide +kernel
theorem pq_89 : mj_prog 89 = mj_p89 := rfl
theorem k89_0 : mj_look (mj_prog 89) 0 = some (.aload_n 0, 1, 0, 0) := by decide +kernel
theorem k89_1 : mj_look (mj_prog 89) 1 = some (.iload_n 1, 1, 0, 0) := by decide +kernel
theorem k89_2 : mj_look (mj_prog 89) 2 = some (.invokevirtual 105, 3, 19, 1) := by decide +kernel
theorem k89_5 : mj_look (mj_prog 89) 5 = some (.ifCond .ne 6, 3, 11, 0) := by decide +kernel
theorem k89_8 : mj_look (mj_prog 89) 8 = some (.ldc 96, 2, 3294967295, 0) := by decide +kernel
theorem k89_10 : mj_look (mj_prog 89) 10 = some (.ireturn, 1, 0, 0) := by decide +kernel
theorem k89_11 : mj_look (mj_prog 89) 11 = some (.aload_n 0, 1, 0, 0) := by decide +kernel
theorem k89_12 : mj_look (mj_prog 89) 12 = some (.getfield 49, 3, 11, 3) := by decide +kernel
theorem k89_15 : mj_look (mj_prog 89) 15 = some (.getfield 108, 3, 6, 3) := by decide +kernel
theorem k89_18 : mj_look (mj_prog 89) 18 = some (.iconst 4, 1, 0, 0) := by decide +kernel
theorem k89_19 : mj_look (mj_prog 89) 19 = some (.aaload, 1, 0, 0) := by decide +kernel
theorem k89_20 : mj_look (mj_prog 89) 20 = some (.iload_n 1, 1, 0, 0) := by decide +kernel
theorem k89_21 : mj_look (mj_prog 89) 21 = some (.iaload, 1, 0, 0) := by decide +kernel
theorem k89_22 : mj_look (mj_prog 89) 22 = some (.istore_n 2, 1, 0, 0) := by decide +kernel
theorem k89_23 : mj_look (mj_prog 89) 23 = some (.aload_n 0, 1, 0, 0) := by decide +kernel
theorem k89_24 : mj_look (mj_prog 89) 24 = some (.getfield 49, 3, 11, 3) := by decide +kernel
theorem k89_27 : mj_look (mj_prog 89) 27 = some (.getfield 209, 3, 6, 4) := by decide +kernel
theorem k89_30 : mj_look (mj_prog 89) 30 = some (.iconst 2, 1, 0, 0) := by decide +kernel
theorem k89_31 : mj_look (mj_prog 89) 31 = some (.iaload, 1, 0, 0) := by decide +kernel
theorem k89_32 : mj_look (mj_prog 89) 32 = some (.istore_n 3, 1, 0, 0) := by decide +kernel
theorem k89_33 : mj_look (mj_prog 89) 33 = some (.iload_n 3, 1, 0, 0) := by decide +kernel
theorem k89_34 : mj_look (mj_prog 89) 34 = some (.ifCond .ge 7, 3, 41, 0) := by decide +kernel
theorem k89_37 : mj_look (mj_prog 89) 37 = some (.iload_n 2, 1, 0, 0) := by decide +kernel
theorem k89_38 : mj_look (mj_prog 89) 38 = some (.goto 25, 3, 63, 0) := by decide +kernel
theorem k89_41 : mj_look (mj_prog 89) 41 = some (.aload_n 0, 1, 0, 0) := by decide +kernel
theorem k89_42 : mj_look (mj_prog 89) 42 = some (.getfield 33, 3, 11, 1) := by decide +kernel
theorem k89_45 : mj_look (mj_prog 89) 45 = some (.iload_n 3, 1, 0, 0) := by decide +kernel
theorem k89_46 : mj_look (mj_prog 89) 46 = some (.aaload, 1, 0, 0) := by decide +kernel
theorem k89_47 : mj_look (mj_prog 89) 47 = some (.aload_n 0, 1, 0, 0) := by decide +kernel
theorem k89_48 : mj_look (mj_prog 89) 48 = some (.getfield 49, 3, 11, 3) := by decide +kernel
theorem k89_51 : mj_look (mj_prog 89) 51 = some (.getfield 108, 3, 6, 3) := by decide +kernel
theorem k89_54 : mj_look (mj_prog 89) 54 = some (.iconst 1, 1, 0, 0) := by decide +kernel
theorem k89_55 : mj_look (mj_prog 89) 55 = some (.aaload, 1, 0, 0) := by decide +kernel
theorem k89_56 : mj_look (mj_prog 89) 56 = some (.iload_n 1, 1, 0, 0) := by decide +kernel
theorem k89_57 : mj_look (mj_prog 89) 57 = some (.iaload, 1, 0, 0) := by decide +kernel
theorem k89_58 : mj_look (mj_prog 89) 58 = some (.iload_n 2, 1, 0, 0) := by decide +kernel
theorem k89_59 : mj_look (mj_prog 89) 59 = some (.iconst 0, 1, 0, 0) := by decide +kernel
theorem k89_60 : mj_look (mj_prog 89) 60 = some (.invokevirtual 212, 3, 22, 3) := by decide +kernel
theorem k89_63 : mj_look (mj_prog 89) 63 = some (.ireturn, 1, 0, 0) := by decide +kernel
theorem mx_90 : (mj_m 90).2.2.1 = 4 := by decide +kernel
theorem rt_90 : (mj_m 90).2.2.2.1 = (some FieldType.int) := by decide +kernel
theorem dp_90 : mj_disp 90 11 = some 90 := by decide +kernel
theorem pq_90 : mj_prog 90 = mj_p90 := rfl
theorem k90_0 : mj_look (mj_prog 90) 0 = some (.aload_n 0, 1, 0, 0) := by decide +kernel
theorem k90_1 : mj_look (mj_prog 90) 1 = some (.getfield 40, 3, 11, 2) := by decide +kernel
theorem k90_4 : mj_look (mj_prog 90) 4 = some (.getfield 215, 3, 9, 1) := by decide +kernel
theorem k90_7 : mj_look (mj_prog 90) 7 = some (.bipush 84, 2, 0, 0) := by decide +kernel
theorem k90_9 : mj_look (mj_prog 90) 9 = some (.if_icmp .le 6, 3, 15, 0) := by decide +kernel
theorem k90_12 : mj_look (mj_prog 90) 12 = some (.ldc 100, 2, 3294967293, 0) := by decide +kernel
theorem k90_14 : mj_look (mj_prog 90) 14 = some (.ireturn, 1, 0, 0) := by decide +kernel
theorem k90_15 : mj_look (mj_prog 90) 15 = some (.aload_n 0, 1, 0, 0) := by decide +kernel
theorem k90_16 : mj_look (mj_prog 90) 16 = some (.getfield 40, 3, 11, 2) := by decide +kernel
theorem k90_19 : mj_look (mj_prog 90) 19 = some (.iload_n 1, 1, 0, 0) := by decide +kernel
theorem k90_20 : mj_look (mj_prog 90) 20 = some (.invokevirtual 218, 3, 91, 1) := by decide +kernel
theorem k90_23 : mj_look (mj_prog 90) 23 = some (.aload_n 0, 1, 0, 0) := by decide +kernel
theorem k90_24 : mj_look (mj_prog 90) 24 = some (.getfield 40, 3, 11, 2) := by decide +kernel
theorem k90_27 : mj_look (mj_prog 90) 27 = some (.iload_n 2, 1, 0, 0) := by decide +kernel
theorem k90_28 : mj_look (mj_prog 90) 28 = some (.invokevirtual 218, 3, 91, 1) := by decide +kernel
theorem k90_31 : mj_look (mj_prog 90) 31 = some (.aload_n 0, 1, 0, 0) := by decide +kernel
theorem k90_32 : mj_look (mj_prog 90) 32 = some (.getfield 40, 3, 11, 2) := by decide +kernel
theorem k90_35 : mj_look (mj_prog 90) 35 = some (.iload_n 3, 1, 0, 0) := by decide +kernel
theorem k90_36 : mj_look (mj_prog 90) 36 = some (.invokevirtual 218, 3, 91, 1) := by decide +kernel
theorem k90_39 : mj_look (mj_prog 90) 39 = some (.aload_n 0, 1, 0, 0) := by decide +kernel
theorem k90_40 : mj_look (mj_prog 90) 40 = some (.getfield 40, 3, 11, 2) := by decide +kernel
theorem k90_43 : mj_look (mj_prog 90) 43 = some (.getfield 215, 3, 9, 1) := by decide +kernel
theorem k90_46 : mj_look (mj_prog 90) 46 = some (.ireturn, 1, 0, 0) := by decide +kernel
theorem mx_91 : (mj_m 91).2.2.1 = 3 := by decide +kernel
theorem rt_91 : (mj_m 91).2.2.2.1 = none := by decide +kernel
theorem dp_91 : mj_disp 91 9 = some 91 := by decide +kernel
theorem pq_91 : mj_prog 91 = mj_p91 := rfl
theorem k91_0 : mj_look (mj_prog 91) 0 = some (.bipush 24, 2, 0, 0) := by decide +kernel
theorem k91_2 : mj_look (mj_prog 91) 2 = some (.istore_n 2, 1, 0, 0) := by decide +kernel
theorem k91_3 : mj_look (mj_prog 91) 3 = some (.iload_n 2, 1, 0, 0) := by decide +kernel
theorem k91_4 : mj_look (mj_prog 91) 4 = some (.ifCond .lt 47, 3, 51, 0) := by decide +kernel
theorem k91_7 : mj_look (mj_prog 91) 7 = some (.aload_n 0, 1, 0, 0) := by decide +kernel
theorem k91_8 : mj_look (mj_prog 91) 8 = some (.getfield 15, 3, 9, 1) := by decide +kernel
theorem k91_11 : mj_look (mj_prog 91) 11 = some (.aload_n 0, 1, 0, 0) := by decide +kernel
theorem k91_12 : mj_look (mj_prog 91) 12 = some (.getfield 9, 3, 9, 0) := by decide +kernel
theorem k91_15 : mj_look (mj_prog 91) 15 = some (.arraylength, 1, 0, 0) := by decide +kernel
theorem k91_16 : mj_look (mj_prog 91) 16 = some (.if_icmp .ge 29, 3, 45, 0) := by decide +kernel
theorem k91_19 : mj_look (mj_prog 91) 19 = some (.aload_n 0, 1, 0, 0) := by decide +kernel
theorem k91_20 : mj_look (mj_prog 91) 20 = some (.getfield 9, 3, 9, 0) := by decide +kernel
theorem k91_23 : mj_look (mj_prog 91) 23 = some (.aload_n 0, 1, 0, 0) := by decide +kernel
theorem k91_24 : mj_look (mj_prog 91) 24 = some (.getfield 15, 3, 9, 1) := by decide +kernel
theorem k91_27 : mj_look (mj_prog 91) 27 = some (.iload_n 1, 1, 0, 0) := by decide +kernel
theorem k91_28 : mj_look (mj_prog 91) 28 = some (.iload_n 2, 1, 0, 0) := by decide +kernel
theorem k91_29 : mj_look (mj_prog 91) 29 = some (.iushr, 1, 0, 0) := by decide +kernel
theorem k91_30 : mj_look (mj_prog 91) 30 = some (.sipush 255, 3, 0, 0) := by decide +kernel
theorem k91_33 : mj_look (mj_prog 91) 33 = some (.iand, 1, 0, 0) := by decide +kernel
theorem k91_34 : mj_look (mj_prog 91) 34 = some (.iastore, 1, 0, 0) := by decide +kernel
theorem k91_35 : mj_look (mj_prog 91) 35 = some (.aload_n 0, 1, 0, 0) := by decide +kernel
theorem k91_36 : mj_look (mj_prog 91) 36 = some (.dup, 1, 0, 0) := by decide +kernel
theorem k91_37 : mj_look (mj_prog 91) 37 = some (.getfield 15, 3, 9, 1) := by decide +kernel
theorem k91_40 : mj_look (mj_prog 91) 40 = some (.iconst 1, 1, 0, 0) := by decide +kernel
theorem k91_41 : mj_look (mj_prog 91) 41 = some (.iadd, 1, 0, 0) := by decide +kernel
theorem k91_42 : mj_look (mj_prog 91) 42 = some (.putfield 15, 3, 9, 1) := by decide +kernel
theorem k91_45 : mj_look (mj_prog 91) 45 = some (.iinc 2 (-8), 3, 0, 0) := by decide +kernel
theorem k91_48 : mj_look (mj_prog 91) 48 = some (.goto (-45), 3, 3, 0) := by decide +kernel
theorem k91_51 : mj_look (mj_prog 91) 51 = some (.return_, 1, 0, 0) := by decide +kernel
theorem mx_92 : (mj_m 92).2.2.1 = 2 := by decide +kernel
theorem rt_92 : (mj_m 92).2.2.2.1 = (some FieldType.int) := by decide +kernel
theorem dp_92 : mj_disp 92 11 = some 92 := by decide +kernel
theorem pq_92 : mj_prog 92 = mj_p92 := rfl
theorem k92_0 : mj_look (mj_prog 92) 0 = some (.iload_n 1, 1, 0, 0) := by decide +kernel
theorem k92_1 : mj_look (mj_prog 92) 1 = some (.iconst 0, 1, 0, 0) := by decide +kernel
theorem k92_2 : mj_look (mj_prog 92) 2 = some (.aload_n 0, 1, 0, 0) := by decide +kernel
theorem k92_3 : mj_look (mj_prog 92) 3 = some (.getfield 40, 3, 11, 2) := by decide +kernel
theorem k92_6 : mj_look (mj_prog 92) 6 = some (.getfield 215, 3, 9, 1) := by decide +kernel
theorem k92_9 : mj_look (mj_prog 92) 9 = some (.invokestatic 141, 3, 16, 3) := by decide +kernel
theorem k92_12 : mj_look (mj_prog 92) 12 = some (.ifCond .ne 6, 3, 18, 0) := by decide +kernel
theorem k92_15 : mj_look (mj_prog 92) 15 = some (.ldc 96, 2, 3294967295, 0) := by decide +kernel
theorem k92_17 : mj_look (mj_prog 92) 17 = some (.ireturn, 1, 0, 0) := by decide +kernel
theorem k92_18 : mj_look (mj_prog 92) 18 = some (.aload_n 0, 1, 0, 0) := by decide +kernel
theorem k92_19 : mj_look (mj_prog 92) 19 = some (.getfield 40, 3, 11, 2) := by decide +kernel
theorem k92_22 : mj_look (mj_prog 92) 22 = some (.iload_n 1, 1, 0, 0) := by decide +kernel
theorem k92_23 : mj_look (mj_prog 92) 23 = some (.putfield 215, 3, 9, 1) := by decide +kernel
theorem k92_26 : mj_look (mj_prog 92) 26 = some (.iload_n 1, 1, 0, 0) := by decide +kernel
theorem k92_27 : mj_look (mj_prog 92) 27 = some (.ireturn, 1, 0, 0) := by decide +kernel
theorem mx_93 : (mj_m 93).2.2.1 = 3 := by decide +kernel
theorem rt_93 : (mj_m 93).2.2.2.1 = (some FieldType.int) := by decide +kernel
theorem dp_93 : mj_disp 93 11 = some 93 := by decide +kernel
theorem pq_93 : mj_prog 93 = mj_p93 := rfl
theorem k93_0 : mj_look (mj_prog 93) 0 = some (.aload_n 0, 1, 0, 0) := by decide +kernel
theorem k93_1 : mj_look (mj_prog 93) 1 = some (.getfield 49, 3, 11, 3) := by decide +kernel
theorem k93_4 : mj_look (mj_prog 93) 4 = some (.getfield 221, 3, 6, 9) := by decide +kernel
theorem k93_7 : mj_look (mj_prog 93) 7 = some (.istore_n 1, 1, 0, 0) := by decide +kernel
theorem k93_8 : mj_look (mj_prog 93) 8 = some (.aload_n 0, 1, 0, 0) := by decide +kernel
theorem k93_9 : mj_look (mj_prog 93) 9 = some (.getfield 40, 3, 11, 2) := by decide +kernel
theorem k93_12 : mj_look (mj_prog 93) 12 = some (.aload_n 0, 1, 0, 0) := by decide +kernel
theorem k93_13 : mj_look (mj_prog 93) 13 = some (.getfield 33, 3, 11, 1) := by decide +kernel
theorem k93_16 : mj_look (mj_prog 93) 16 = some (.iload_n 1, 1, 0, 0) := by decide +kernel
theorem k93_17 : mj_look (mj_prog 93) 17 = some (.aaload, 1, 0, 0) := by decide +kernel
theorem k93_18 : mj_look (mj_prog 93) 18 = some (.invokevirtual 224, 3, 94, 1) := by decide +kernel
theorem k93_21 : mj_look (mj_prog 93) 21 = some (.istore_n 2, 1, 0, 0) := by decide +kernel
theorem k93_22 : mj_look (mj_prog 93) 22 = some (.aload_n 0, 1, 0, 0) := by decide +kernel
theorem k93_23 : mj_look (mj_prog 93) 23 = some (.getfield 40, 3, 11, 2) := by decide +kernel
theorem k93_26 : mj_look (mj_prog 93) 26 = some (.iconst 0, 1, 0, 0) := by decide +kernel
theorem k93_27 : mj_look (mj_prog 93) 27 = some (.putfield 215, 3, 9, 1) := by decide +kernel
theorem k93_30 : mj_look (mj_prog 93) 30 = some (.iload_n 2, 1, 0, 0) := by decide +kernel
theorem k93_31 : mj_look (mj_prog 93) 31 = some (.ifCond .ne 14, 3, 45, 0) := by decide +kernel
theorem k93_34 : mj_look (mj_prog 93) 34 = some (.bipush (-100), 2, 0, 0) := by decide +kernel
theorem k93_36 : mj_look (mj_prog 93) 36 = some (.aload_n 0, 1, 0, 0) := by decide +kernel
theorem k93_37 : mj_look (mj_prog 93) 37 = some (.getfield 40, 3, 11, 2) := by decide +kernel
theorem k93_40 : mj_look (mj_prog 93) 40 = some (.getfield 228, 3, 9, 2) := by decide +kernel
theorem k93_43 : mj_look (mj_prog 93) 43 = some (.isub, 1, 0, 0) := by decide +kernel
theorem k93_44 : mj_look (mj_prog 93) 44 = some (.ireturn, 1, 0, 0) := by decide +kernel
theorem k93_45 : mj_look (mj_prog 93) 45 = some (.iload_n 1, 1, 0, 0) := by decide +kernel
theorem k93_46 : mj_look (mj_prog 93) 46 = some (.bipush 14, 2, 0, 0) := by decide +kernel
theorem k93_48 : mj_look (mj_prog 93) 48 = some (.if_icmp .lt 6, 3, 54, 0) := by decide +kernel
theorem k93_51 : mj_look (mj_prog 93) 51 = some (.ldc 100, 2, 3294967293, 0) := by decide +kernel
theorem k93_53 : mj_look (mj_prog 93) 53 = some (.ireturn, 1, 0, 0) := by decide +kernel
theorem k93_54 : mj_look (mj_prog 93) 54 = some (.aload_n 0, 1, 0, 0) := by decide +kernel
theorem k93_55 : mj_look (mj_prog 93) 55 = some (.getfield 49, 3, 11, 3) := by decide +kernel
theorem k93_58 : mj_look (mj_prog 93) 58 = some (.getfield 209, 3, 6, 4) := by decide +kernel
theorem k93_61 : mj_look (mj_prog 93) 61 = some (.aload_n 0, 1, 0, 0) := by decide +kernel
theorem k93_62 : mj_look (mj_prog 93) 62 = some (.getfield 33, 3, 11, 1) := by decide +kernel
theorem k93_65 : mj_look (mj_prog 93) 65 = some (.iload_n 1, 1, 0, 0) := by decide +kernel
theorem k93_66 : mj_look (mj_prog 93) 66 = some (.aaload, 1, 0, 0) := by decide +kernel
theorem k93_67 : mj_look (mj_prog 93) 67 = some (.getfield 231, 3, 10, 3) := by decide +kernel
theorem k93_70 : mj_look (mj_prog 93) 70 = some (.iload_n 1, 1, 0, 0) := by decide +kernel
theorem k93_71 : mj_look (mj_prog 93) 71 = some (.iastore, 1, 0, 0) := by decide +kernel
theorem k93_72 : mj_look (mj_prog 93) 72 = some (.aload_n 0, 1, 0, 0) := by decide +kernel
theorem k93_73 : mj_look (mj_prog 93) 73 = some (.getfield 49, 3, 11, 3) := by decide +kernel
theorem k93_76 : mj_look (mj_prog 93) 76 = some (.iload_n 1, 1, 0, 0) := by decide +kernel
theorem k93_77 : mj_look (mj_prog 93) 77 = some (.iconst 1, 1, 0, 0) := by decide +kernel
theorem k93_78 : mj_look (mj_prog 93) 78 = some (.iadd, 1, 0, 0) := by decide +kernel
theorem k93_79 : mj_look (mj_prog 93) 79 = some (.putfield 221, 3, 6, 9) := by decide +kernel
theorem k93_82 : mj_look (mj_prog 93) 82 = some (.iload_n 1, 1, 0, 0) := by decide +kernel
theorem k93_83 : mj_look (mj_prog 93) 83 = some (.ireturn, 1, 0, 0) := by decide +kernel
theorem mx_94 : (mj_m 94).2.2.1 = 3 := by decide +kernel
theorem rt_94 : (mj_m 94).2.2.2.1 = (some FieldType.boolean) := by decide +kernel
theorem dp_94 : mj_disp 94 9 = some 94 := by decide +kernel
theorem pq_94 : mj_prog 94 = mj_p94 := rfl
theorem k94_0 : mj_look (mj_prog 94) 0 = some (.aload_n 0, 1, 0, 0) := by decide +kernel
theorem k94_1 : mj_look (mj_prog 94) 1 = some (.iconst 0, 1, 0, 0) := by decide +kernel
theorem k94_2 : mj_look (mj_prog 94) 2 = some (.putfield 22, 3, 9, 3) := by decide +kernel
theorem k94_5 : mj_look (mj_prog 94) 5 = some (.aload_n 0, 1, 0, 0) := by decide +kernel
theorem k94_6 : mj_look (mj_prog 94) 6 = some (.iconst 0, 1, 0, 0) := by decide +kernel
theorem k94_7 : mj_look (mj_prog 94) 7 = some (.putfield 25, 3, 9, 4) := by decide +kernel
theorem k94_10 : mj_look (mj_prog 94) 10 = some (.aload_n 0, 1, 0, 0) := by decide +kernel
theorem k94_11 : mj_look (mj_prog 94) 11 = some (.invokevirtual 28, 3, 95, 0) := by decide +kernel
theorem k94_14 : mj_look (mj_prog 94) 14 = some (.aload_n 0, 1, 0, 0) := by decide +kernel
theorem k94_15 : mj_look (mj_prog 94) 15 = some (.invokevirtual 31, 3, 97, 0) := by decide +kernel
theorem k94_18 : mj_look (mj_prog 94) 18 = some (.istore_n 2, 1, 0, 0) := by decide +kernel
theorem k94_19 : mj_look (mj_prog 94) 19 = some (.iload_n 2, 1, 0, 0) := by decide +kernel
theorem k94_20 : mj_look (mj_prog 94) 20 = some (.ifCond .ge 5, 3, 25, 0) := by decide +kernel
theorem k94_23 : mj_look (mj_prog 94) 23 = some (.iconst 0, 1, 0, 0) := by decide +kernel
theorem k94_24 : mj_look (mj_prog 94) 24 = some (.ireturn, 1, 0, 0) := by decide +kernel
theorem k94_25 : mj_look (mj_prog 94) 25 = some (.aload_n 1, 1, 0, 0) := by decide +kernel
theorem k94_26 : mj_look (mj_prog 94) 26 = some (.iload_n 2, 1, 0, 0) := by decide +kernel
theorem k94_27 : mj_look (mj_prog 94) 27 = some (.invokevirtual 35, 3, 99, 1) := by decide +kernel
theorem k94_30 : mj_look (mj_prog 94) 30 = some (.aload_n 0, 1, 0, 0) := by decide +kernel
theorem k94_31 : mj_look (mj_prog 94) 31 = some (.invokevirtual 28, 3, 95, 0) := by decide +kernel
theorem k94_34 : mj_look (mj_prog 94) 34 = some (.aload_n 0, 1, 0, 0) := by decide +kernel
theorem k94_35 : mj_look (mj_prog 94) 35 = some (.aload_n 1, 1, 0, 0) := by decide +kernel
theorem k94_36 : mj_look (mj_prog 94) 36 = some (.iconst 0, 1, 0, 0) := by decide +kernel
theorem k94_37 : mj_look (mj_prog 94) 37 = some (.iconst 0, 1, 0, 0) := by decide +kernel
theorem k94_38 : mj_look (mj_prog 94) 38 = some (.iconst 0, 1, 0, 0) := by decide +kernel
theorem k94_39 : mj_look (mj_prog 94) 39 = some (.invokevirtual 41, 3, 100, 4) := by decide +kernel
theorem k94_42 : mj_look (mj_prog 94) 42 = some (.ifCond .eq 14, 3, 56, 0) := by decide +kernel
theorem k94_45 : mj_look (mj_prog 94) 45 = some (.aload_n 0, 1, 0, 0) := by decide +kernel
theorem k94_46 : mj_look (mj_prog 94) 46 = some (.getfield 25, 3, 9, 4) := by decide +kernel
theorem k94_49 : mj_look (mj_prog 94) 49 = some (.ifCond .ne 7, 3, 56, 0) := by decide +kernel
theorem k94_52 : mj_look (mj_prog 94) 52 = some (.iconst 1, 1, 0, 0) := by decide +kernel
theorem k94_53 : mj_look (mj_prog 94) 53 = some (.goto 4, 3, 57, 0) := by decide +kernel
theorem k94_56 : mj_look (mj_prog 94) 56 = some (.iconst 0, 1, 0, 0) := by decide +kernel
theorem k94_57 : mj_look (mj_prog 94) 57 = some (.ireturn, 1, 0, 0) := by decide +kernel
theorem mx_95 : (mj_m 95).2.2.1 = 4 := by decide +kernel
theorem rt_95 : (mj_m 95).2.2.2.1 = none := by decide +kernel
theorem dp_95 : mj_disp 95 9 = some 95 := by decide +kernel
theorem pq_95 : mj_prog 95 = mj_p95 := rfl
theorem k95_0 : mj_look (mj_prog 95) 0 = some (.aload_n 0, 1, 0, 0) := by decide +kernel
theorem k95_1 : mj_look (mj_prog 95) 1 = some (.getfield 25, 3, 9, 4) := by decide +kernel
theorem k95_4 : mj_look (mj_prog 95) 4 = some (.iconst 1, 1, 0, 0) := by decide +kernel
theorem k95_5 : mj_look (mj_prog 95) 5 = some (.if_icmp .eq 11, 3, 16, 0) := by decide +kernel
theorem k95_8 : mj_look (mj_prog 95) 8 = some (.aload_n 0, 1, 0, 0) := by decide +kernel
theorem k95_9 : mj_look (mj_prog 95) 9 = some (.getfield 25, 3, 9, 4) := by decide +kernel
theorem k95_12 : mj_look (mj_prog 95) 12 = some (.iconst 2, 1, 0, 0) := by decide +kernel
theorem k95_13 : mj_look (mj_prog 95) 13 = some (.if_icmp .ne 7, 3, 20, 0) := by decide +kernel
theorem k95_16 : mj_look (mj_prog 95) 16 = some (.iconst 1, 1, 0, 0) := by decide +kernel
theorem k95_17 : mj_look (mj_prog 95) 17 = some (.goto 4, 3, 21, 0) := by decide +kernel
theorem k95_20 : mj_look (mj_prog 95) 20 = some (.iconst 0, 1, 0, 0) := by decide +kernel
theorem k95_21 : mj_look (mj_prog 95) 21 = some (.istore_n 1, 1, 0, 0) := by decide +kernel
theorem k95_22 : mj_look (mj_prog 95) 22 = some (.aload_n 0, 1, 0, 0) := by decide +kernel
theorem k95_23 : mj_look (mj_prog 95) 23 = some (.getfield 22, 3, 9, 3) := by decide +kernel
theorem k95_26 : mj_look (mj_prog 95) 26 = some (.istore_n 2, 1, 0, 0) := by decide +kernel
theorem k95_27 : mj_look (mj_prog 95) 27 = some (.aload_n 0, 1, 0, 0) := by decide +kernel
theorem k95_28 : mj_look (mj_prog 95) 28 = some (.getfield 22, 3, 9, 3) := by decide +kernel
theorem k95_31 : mj_look (mj_prog 95) 31 = some (.aload_n 0, 1, 0, 0) := by decide +kernel
theorem k95_32 : mj_look (mj_prog 95) 32 = some (.getfield 15, 3, 9, 1) := by decide +kernel
theorem k95_35 : mj_look (mj_prog 95) 35 = some (.if_icmp .ge 30, 3, 65, 0) := by decide +kernel
theorem k95_38 : mj_look (mj_prog 95) 38 = some (.aload_n 0, 1, 0, 0) := by decide +kernel
theorem k95_39 : mj_look (mj_prog 95) 39 = some (.getfield 9, 3, 9, 0) := by decide +kernel
theorem k95_42 : mj_look (mj_prog 95) 42 = some (.aload_n 0, 1, 0, 0) := by decide +kernel
theorem k95_43 : mj_look (mj_prog 95) 43 = some (.getfield 22, 3, 9, 3) := by decide +kernel
theorem k95_46 : mj_look (mj_prog 95) 46 = some (.iaload, 1, 0, 0) := by decide +kernel
theorem k95_47 : mj_look (mj_prog 95) 47 = some (.bipush 32, 2, 0, 0) := by decide +kernel
theorem k95_49 : mj_look (mj_prog 95) 49 = some (.if_icmp .ne 16, 3, 65, 0) := by decide +kernel
theorem k95_52 : mj_look (mj_prog 95) 52 = some (.aload_n 0, 1, 0, 0) := by decide +kernel
theorem k95_53 : mj_look (mj_prog 95) 53 = some (.dup, 1, 0, 0) := by decide +kernel
theorem k95_54 : mj_look (mj_prog 95) 54 = some (.getfield 22, 3, 9, 3) := by decide +kernel
theorem k95_57 : mj_look (mj_prog 95) 57 = some (.iconst 1, 1, 0, 0) := by decide +kernel
theorem k95_58 : mj_look (mj_prog 95) 58 = some (.iadd, 1, 0, 0) := by decide +kernel
theorem k95_59 : mj_look (mj_prog 95) 59 = some (.putfield 22, 3, 9, 3) := by decide +kernel
theorem k95_62 : mj_look (mj_prog 95) 62 = some (.goto (-35), 3, 27, 0) := by decide +kernel
theorem k95_65 : mj_look (mj_prog 95) 65 = some (.iload_n 1, 1, 0, 0) := by decide +kernel
theorem k95_66 : mj_look (mj_prog 95) 66 = some (.ifCond .eq 15, 3, 81, 0) := by decide +kernel
theorem k95_69 : mj_look (mj_prog 95) 69 = some (.aload_n 0, 1, 0, 0) := by decide +kernel
theorem k95_70 : mj_look (mj_prog 95) 70 = some (.getfield 22, 3, 9, 3) := by decide +kernel
theorem k95_73 : mj_look (mj_prog 95) 73 = some (.iload_n 2, 1, 0, 0) := by decide +kernel
theorem k95_74 : mj_look (mj_prog 95) 74 = some (.if_icmp .ne 7, 3, 81, 0) := by decide +kernel
theorem k95_77 : mj_look (mj_prog 95) 77 = some (.iconst 1, 1, 0, 0) := by decide +kernel
theorem k95_78 : mj_look (mj_prog 95) 78 = some (.goto 4, 3, 82, 0) := by decide +kernel
theorem k95_81 : mj_look (mj_prog 95) 81 = some (.iconst 0, 1, 0, 0) := by decide +kernel
theorem k95_82 : mj_look (mj_prog 95) 82 = some (.istore_n 3, 1, 0, 0) := by decide +kernel
theorem k95_83 : mj_look (mj_prog 95) 83 = some (.aload_n 0, 1, 0, 0) := by decide +kernel
theorem k95_84 : mj_look (mj_prog 95) 84 = some (.aload_n 0, 1, 0, 0) := by decide +kernel
theorem k95_85 : mj_look (mj_prog 95) 85 = some (.getfield 22, 3, 9, 3) := by decide +kernel
theorem k95_88 : mj_look (mj_prog 95) 88 = some (.putfield 19, 3, 9, 2) := by decide +kernel
theorem k95_91 : mj_look (mj_prog 95) 91 = some (.aload_n 0, 1, 0, 0) := by decide +kernel
theorem k95_92 : mj_look (mj_prog 95) 92 = some (.getfield 19, 3, 9, 2) := by decide +kernel
theorem k95_95 : mj_look (mj_prog 95) 95 = some (.aload_n 0, 1, 0, 0) := by decide +kernel
theorem k95_96 : mj_look (mj_prog 95) 96 = some (.getfield 15, 3, 9, 1) := by decide +kernel
theorem k95_99 : mj_look (mj_prog 95) 99 = some (.if_icmp .lt 9, 3, 108, 0) := by decide +kernel
theorem k95_102 : mj_look (mj_prog 95) 102 = some (.aload_n 0, 1, 0, 0) := by decide +kernel
theorem k95_103 : mj_look (mj_prog 95) 103 = some (.iconst 0, 1, 0, 0) := by decide +kernel
theorem k95_104 : mj_look (mj_prog 95) 104 = some (.putfield 25, 3, 9, 4) := by decide +kernel
theorem k95_107 : mj_look (mj_prog 95) 107 = some (.return_, 1, 0, 0) := by decide +kernel
theorem k95_108 : mj_look (mj_prog 95) 108 = some (.aload_n 0, 1, 0, 0) := by decide +kernel
theorem k95_109 : mj_look (mj_prog 95) 109 = some (.aload_n 0, 1, 0, 0) := by decide +kernel
theorem k95_110 : mj_look (mj_prog 95) 110 = some (.getfield 9, 3, 9, 0) := by decide +kernel
theorem k95_113 : mj_look (mj_prog 95) 113 = some (.aload_n 0, 1, 0, 0) := by decide +kernel
theorem k95_114 : mj_look (mj_prog 95) 114 = some (.getfield 19, 3, 9, 2) := by decide +kernel
theorem k95_117 : mj_look (mj_prog 95) 117 = some (.iaload, 1, 0, 0) := by decide +kernel
theorem k95_118 : mj_look (mj_prog 95) 118 = some (.invokestatic 86, 3, 96, 1) := by decide +kernel
theorem k95_121 : mj_look (mj_prog 95) 121 = some (.putfield 25, 3, 9, 4) := by decide +kernel
theorem k95_124 : mj_look (mj_prog 95) 124 = some (.aload_n 0, 1, 0, 0) := by decide +kernel
theorem k95_125 : mj_look (mj_prog 95) 125 = some (.dup, 1, 0, 0) := by decide +kernel
theorem k95_126 : mj_look (mj_prog 95) 126 = some (.getfield 22, 3, 9, 3) := by decide +kernel
theorem k95_129 : mj_look (mj_prog 95) 129 = some (.iconst 1, 1, 0, 0) := by decide +kernel
theorem k95_130 : mj_look (mj_prog 95) 130 = some (.iadd, 1, 0, 0) := by decide +kernel
theorem k95_131 : mj_look (mj_prog 95) 131 = some (.putfield 22, 3, 9, 3) := by decide +kernel
theorem k95_134 : mj_look (mj_prog 95) 134 = some (.aload_n 0, 1, 0, 0) := by decide +kernel
theorem k95_135 : mj_look (mj_prog 95) 135 = some (.getfield 25, 3, 9, 4) := by decide +kernel
theorem k95_138 : mj_look (mj_prog 95) 138 = some (.iconst 3, 1, 0, 0) := by decide +kernel
theorem k95_139 : mj_look (mj_prog 95) 139 = some (.if_icmp .eq 46, 3, 185, 0) := by decide +kernel
theorem k95_142 : mj_look (mj_prog 95) 142 = some (.aload_n 0, 1, 0, 0) := by decide +kernel
theorem k95_143 : mj_look (mj_prog 95) 143 = some (.getfield 22, 3, 9, 3) := by decide +kernel
theorem k95_146 : mj_look (mj_prog 95) 146 = some (.aload_n 0, 1, 0, 0) := by decide +kernel
theorem k95_147 : mj_look (mj_prog 95) 147 = some (.getfield 15, 3, 9, 1) := by decide +kernel
theorem k95_150 : mj_look (mj_prog 95) 150 = some (.if_icmp .ge 35, 3, 185, 0) := by decide +kernel
theorem k95_153 : mj_look (mj_prog 95) 153 = some (.aload_n 0, 1, 0, 0) := by decide +kernel
theorem k95_154 : mj_look (mj_prog 95) 154 = some (.getfield 9, 3, 9, 0) := by decide +kernel
theorem k95_157 : mj_look (mj_prog 95) 157 = some (.aload_n 0, 1, 0, 0) := by decide +kernel
theorem k95_158 : mj_look (mj_prog 95) 158 = some (.getfield 22, 3, 9, 3) := by decide +kernel
theorem k95_161 : mj_look (mj_prog 95) 161 = some (.iaload, 1, 0, 0) := by decide +kernel
theorem k95_162 : mj_look (mj_prog 95) 162 = some (.invokestatic 86, 3, 96, 1) := by decide +kernel
theorem k95_165 : mj_look (mj_prog 95) 165 = some (.aload_n 0, 1, 0, 0) := by decide +kernel
theorem k95_166 : mj_look (mj_prog 95) 166 = some (.getfield 25, 3, 9, 4) := by decide +kernel
theorem k95_169 : mj_look (mj_prog 95) 169 = some (.if_icmp .ne 16, 3, 185, 0) := by decide +kernel
theorem k95_172 : mj_look (mj_prog 95) 172 = some (.aload_n 0, 1, 0, 0) := by decide +kernel
theorem k95_173 : mj_look (mj_prog 95) 173 = some (.dup, 1, 0, 0) := by decide +kernel
theorem k95_174 : mj_look (mj_prog 95) 174 = some (.getfield 22, 3, 9, 3) := by decide +kernel
theorem k95_177 : mj_look (mj_prog 95) 177 = some (.iconst 1, 1, 0, 0) := by decide +kernel
theorem k95_178 : mj_look (mj_prog 95) 178 = some (.iadd, 1, 0, 0) := by decide +kernel
theorem k95_179 : mj_look (mj_prog 95) 179 = some (.putfield 22, 3, 9, 3) := by decide +kernel
theorem k95_182 : mj_look (mj_prog 95) 182 = some (.goto (-48), 3, 134, 0) := by decide +kernel
theorem k95_185 : mj_look (mj_prog 95) 185 = some (.iload_n 3, 1, 0, 0) := by decide +kernel
theorem k95_186 : mj_look (mj_prog 95) 186 = some (.ifCond .eq 11, 3, 197, 0) := by decide +kernel
theorem k95_189 : mj_look (mj_prog 95) 189 = some (.aload_n 0, 1, 0, 0) := by decide +kernel
theorem k95_190 : mj_look (mj_prog 95) 190 = some (.getfield 25, 3, 9, 4) := by decide +kernel
theorem k95_193 : mj_look (mj_prog 95) 193 = some (.iconst 3, 1, 0, 0) := by decide +kernel
theorem k95_194 : mj_look (mj_prog 95) 194 = some (.if_icmp .ne 24, 3, 218, 0) := by decide +kernel
theorem k95_197 : mj_look (mj_prog 95) 197 = some (.aload_n 0, 1, 0, 0) := by decide +kernel
theorem k95_198 : mj_look (mj_prog 95) 198 = some (.getfield 25, 3, 9, 4) := by decide +kernel
theorem k95_201 : mj_look (mj_prog 95) 201 = some (.iconst 2, 1, 0, 0) := by decide +kernel
theorem k95_202 : mj_look (mj_prog 95) 202 = some (.if_icmp .ne 21, 3, 223, 0) := by decide +kernel
theorem k95_205 : mj_look (mj_prog 95) 205 = some (.aload_n 0, 1, 0, 0) := by decide +kernel
theorem k95_206 : mj_look (mj_prog 95) 206 = some (.getfield 22, 3, 9, 3) := by decide +kernel
theorem k95_209 : mj_look (mj_prog 95) 209 = some (.aload_n 0, 1, 0, 0) := by decide +kernel
theorem k95_210 : mj_look (mj_prog 95) 210 = some (.getfield 19, 3, 9, 2) := by decide +kernel
theorem k95_213 : mj_look (mj_prog 95) 213 = some (.isub, 1, 0, 0) := by decide +kernel
theorem k95_214 : mj_look (mj_prog 95) 214 = some (.iconst 4, 1, 0, 0) := by decide +kernel
theorem k95_215 : mj_look (mj_prog 95) 215 = some (.if_icmp .le 8, 3, 223, 0) := by decide +kernel
theorem k95_218 : mj_look (mj_prog 95) 218 = some (.aload_n 0, 1, 0, 0) := by decide +kernel
theorem k95_219 : mj_look (mj_prog 95) 219 = some (.iconst 4, 1, 0, 0) := by decide +kernel
theorem k95_220 : mj_look (mj_prog 95) 220 = some (.putfield 25, 3, 9, 4) := by decide +kernel
theorem k95_223 : mj_look (mj_prog 95) 223 = some (.return_, 1, 0, 0) := by decide +kernel
theorem mx_96 : (mj_m 96).2.2.1 = 1 := by decide +kernel
theorem rt_96 : (mj_m 96).2.2.2.1 = (some FieldType.int) := by decide +kernel
theorem dp_96 : mj_disp 96 9 = some 96 := by decide +kernel
theorem pq_96 : mj_prog 96 = mj_p96 := rfl
theorem k96_0 : mj_look (mj_prog 96) 0 = some (.iload_n 0, 1, 0, 0) := by decide +kernel
theorem k96_1 : mj_look (mj_prog 96) 1 = some (.bipush 97, 2, 0, 0) := by decide +kernel
theorem k96_3 : mj_look (mj_prog 96) 3 = some (.if_icmp .lt 11, 3, 14, 0) := by decide +kernel
theorem k96_6 : mj_look (mj_prog 96) 6 = some (.iload_n 0, 1, 0, 0) := by decide +kernel
theorem k96_7 : mj_look (mj_prog 96) 7 = some (.bipush 122, 2, 0, 0) := by decide +kernel
theorem k96_9 : mj_look (mj_prog 96) 9 = some (.if_icmp .gt 5, 3, 14, 0) := by decide +kernel
theorem k96_12 : mj_look (mj_prog 96) 12 = some (.iconst 1, 1, 0, 0) := by decide +kernel
theorem k96_13 : mj_look (mj_prog 96) 13 = some (.ireturn, 1, 0, 0) := by decide +kernel
theorem k96_14 : mj_look (mj_prog 96) 14 = some (.iload_n 0, 1, 0, 0) := by decide +kernel
theorem k96_15 : mj_look (mj_prog 96) 15 = some (.bipush 48, 2, 0, 0) := by decide +kernel
theorem k96_17 : mj_look (mj_prog 96) 17 = some (.if_icmp .lt 13, 3, 30, 0) := by decide +kernel
theorem k96_20 : mj_look (mj_prog 96) 20 = some (.iload_n 0, 1, 0, 0) := by decide +kernel
theorem k96_21 : mj_look (mj_prog 96) 21 = some (.bipush 57, 2, 0, 0) := by decide +kernel
theorem k96_23 : mj_look (mj_prog 96) 23 = some (.if_icmp .gt 7, 3, 30, 0) := by decide +kernel
theorem k96_26 : mj_look (mj_prog 96) 26 = some (.iconst 2, 1, 0, 0) := by decide +kernel
theorem k96_27 : mj_look (mj_prog 96) 27 = some (.goto 4, 3, 31, 0) := by decide +kernel
theorem k96_30 : mj_look (mj_prog 96) 30 = some (.iconst 3, 1, 0, 0) := by decide +kernel
theorem k96_31 : mj_look (mj_prog 96) 31 = some (.ireturn, 1, 0, 0) := by decide +kernel
theorem mx_97 : (mj_m 97).2.2.1 = 1 := by decide +kernel
theorem rt_97 : (mj_m 97).2.2.2.1 = (some FieldType.int) := by decide +kernel
theorem dp_97 : mj_disp 97 9 = some 97 := by decide +kernel
theorem pq_97 : mj_prog 97 = mj_p97 := rfl
theorem k97_0 : mj_look (mj_prog 97) 0 = some (.aload_n 0, 1, 0, 0) := by decide +kernel
theorem k97_1 : mj_look (mj_prog 97) 1 = some (.ldc 104, 2, 0, 1) := by decide +kernel
theorem k97_3 : mj_look (mj_prog 97) 3 = some (.invokevirtual 106, 3, 98, 1) := by decide +kernel
theorem k97_6 : mj_look (mj_prog 97) 6 = some (.ifCond .eq 5, 3, 11, 0) := by decide +kernel
theorem k97_9 : mj_look (mj_prog 97) 9 = some (.iconst 0, 1, 0, 0) := by decide +kernel
theorem k97_10 : mj_look (mj_prog 97) 10 = some (.ireturn, 1, 0, 0) := by decide +kernel
theorem k97_11 : mj_look (mj_prog 97) 11 = some (.aload_n 0, 1, 0, 0) := by decide +kernel
theorem k97_12 : mj_look (mj_prog 97) 12 = some (.ldc 109, 2, 1, 1) := by decide +kernel
theorem k97_14 : mj_look (mj_prog 97) 14 = some (.invokevirtual 106, 3, 98, 1) := by decide +kernel
theorem k97_17 : mj_look (mj_prog 97) 17 = some (.ifCond .eq 5, 3, 22, 0) := by decide +kernel
theorem k97_20 : mj_look (mj_prog 97) 20 = some (.iconst 1, 1, 0, 0) := by decide +kernel
theorem k97_21 : mj_look (mj_prog 97) 21 = some (.ireturn, 1, 0, 0) := by decide +kernel
theorem k97_22 : mj_look (mj_prog 97) 22 = some (.aload_n 0, 1, 0, 0) := by decide +kernel
theorem k97_23 : mj_look (mj_prog 97) 23 = some (.ldc 111, 2, 2, 1) := by decide +kernel
theorem k97_25 : mj_look (mj_prog 97) 25 = some (.invokevirtual 106, 3, 98, 1) := by decide +kernel
theorem k97_28 : mj_look (mj_prog 97) 28 = some (.ifCond .eq 7, 3, 35, 0) := by decide +kernel
theorem k97_31 : mj_look (mj_prog 97) 31 = some (.iconst 2, 1, 0, 0) := by decide +kernel
theorem k97_32 : mj_look (mj_prog 97) 32 = some (.goto 4, 3, 36, 0) := by decide +kernel
theorem k97_35 : mj_look (mj_prog 97) 35 = some (.iconst (-1), 1, 0, 0) := by decide +kernel
theorem k97_36 : mj_look (mj_prog 97) 36 = some (.ireturn, 1, 0, 0) := by decide +kernel
theorem mx_98 : (mj_m 98).2.2.1 = 3 := by decide +kernel
theorem rt_98 : (mj_m 98).2.2.2.1 = (some FieldType.boolean) := by decide +kernel
theorem dp_98 : mj_disp 98 9 = some 98 := by decide +kernel
theorem pq_98 : mj_prog 98 = mj_p98 := rfl
theorem k98_0 : mj_look (mj_prog 98) 0 = some (.aload_n 0, 1, 0, 0) := by decide +kernel
theorem k98_1 : mj_look (mj_prog 98) 1 = some (.getfield 25, 3, 9, 4) := by decide +kernel
theorem k98_4 : mj_look (mj_prog 98) 4 = some (.iconst 1, 1, 0, 0) := by decide +kernel
theorem k98_5 : mj_look (mj_prog 98) 5 = some (.if_icmp .ne 19, 3, 24, 0) := by decide +kernel
theorem k98_8 : mj_look (mj_prog 98) 8 = some (.aload_n 0, 1, 0, 0) := by decide +kernel
theorem k98_9 : mj_look (mj_prog 98) 9 = some (.getfield 22, 3, 9, 3) := by decide +kernel
theorem k98_12 : mj_look (mj_prog 98) 12 = some (.aload_n 0, 1, 0, 0) := by decide +kernel
theorem k98_13 : mj_look (mj_prog 98) 13 = some (.getfield 19, 3, 9, 2) := by decide +kernel
theorem k98_16 : mj_look (mj_prog 98) 16 = some (.isub, 1, 0, 0) := by decide +kernel
theorem k98_17 : mj_look (mj_prog 98) 17 = some (.aload_n 1, 1, 0, 0) := by decide +kernel
theorem k98_18 : mj_look (mj_prog 98) 18 = some (.invokevirtual 113, 3, 3002, 0) := by decide +kernel
theorem k98_21 : mj_look (mj_prog 98) 21 = some (.if_icmp .eq 5, 3, 26, 0) := by decide +kernel
theorem k98_24 : mj_look (mj_prog 98) 24 = some (.iconst 0, 1, 0, 0) := by decide +kernel
theorem k98_25 : mj_look (mj_prog 98) 25 = some (.ireturn, 1, 0, 0) := by decide +kernel
theorem k98_26 : mj_look (mj_prog 98) 26 = some (.iconst 0, 1, 0, 0) := by decide +kernel
theorem k98_27 : mj_look (mj_prog 98) 27 = some (.istore_n 2, 1, 0, 0) := by decide +kernel
theorem k98_28 : mj_look (mj_prog 98) 28 = some (.iload_n 2, 1, 0, 0) := by decide +kernel
theorem k98_29 : mj_look (mj_prog 98) 29 = some (.aload_n 1, 1, 0, 0) := by decide +kernel
theorem k98_30 : mj_look (mj_prog 98) 30 = some (.invokevirtual 113, 3, 3002, 0) := by decide +kernel
theorem k98_33 : mj_look (mj_prog 98) 33 = some (.if_icmp .ge 30, 3, 63, 0) := by decide +kernel
theorem k98_36 : mj_look (mj_prog 98) 36 = some (.aload_n 0, 1, 0, 0) := by decide +kernel
theorem k98_37 : mj_look (mj_prog 98) 37 = some (.getfield 9, 3, 9, 0) := by decide +kernel
theorem k98_40 : mj_look (mj_prog 98) 40 = some (.aload_n 0, 1, 0, 0) := by decide +kernel
theorem k98_41 : mj_look (mj_prog 98) 41 = some (.getfield 19, 3, 9, 2) := by decide +kernel
theorem k98_44 : mj_look (mj_prog 98) 44 = some (.iload_n 2, 1, 0, 0) := by decide +kernel
theorem k98_45 : mj_look (mj_prog 98) 45 = some (.iadd, 1, 0, 0) := by decide +kernel
theorem k98_46 : mj_look (mj_prog 98) 46 = some (.iaload, 1, 0, 0) := by decide +kernel
theorem k98_47 : mj_look (mj_prog 98) 47 = some (.aload_n 1, 1, 0, 0) := by decide +kernel
theorem k98_48 : mj_look (mj_prog 98) 48 = some (.iload_n 2, 1, 0, 0) := by decide +kernel
theorem k98_49 : mj_look (mj_prog 98) 49 = some (.invokevirtual 115, 3, 3003, 1) := by decide +kernel
theorem k98_52 : mj_look (mj_prog 98) 52 = some (.if_icmp .eq 5, 3, 57, 0) := by decide +kernel
theorem k98_55 : mj_look (mj_prog 98) 55 = some (.iconst 0, 1, 0, 0) := by decide +kernel
theorem k98_56 : mj_look (mj_prog 98) 56 = some (.ireturn, 1, 0, 0) := by decide +kernel
theorem k98_57 : mj_look (mj_prog 98) 57 = some (.iinc 2 1, 3, 0, 0) := by decide +kernel
theorem k98_60 : mj_look (mj_prog 98) 60 = some (.goto (-32), 3, 28, 0) := by decide +kernel
theorem k98_63 : mj_look (mj_prog 98) 63 = some (.iconst 1, 1, 0, 0) := by decide +kernel
theorem k98_64 : mj_look (mj_prog 98) 64 = some (.ireturn, 1, 0, 0) := by decide +kernel
theorem mx_99 : (mj_m 99).2.2.1 = 2 := by decide +kernel
theorem rt_99 : (mj_m 99).2.2.2.1 = none := by decide +kernel
theorem dp_99 : mj_disp 99 10 = some 99 := by decide +kernel
theorem pq_99 : mj_prog 99 = mj_p99 := rfl
theorem k99_0 : mj_look (mj_prog 99) 0 = some (.aload_n 0, 1, 0, 0) := by decide +kernel
theorem k99_1 : mj_look (mj_prog 99) 1 = some (.iload_n 1, 1, 0, 0) := by decide +kernel
theorem k99_2 : mj_look (mj_prog 99) 2 = some (.putfield 22, 3, 10, 3) := by decide +kernel
theorem k99_5 : mj_look (mj_prog 99) 5 = some (.aload_n 0, 1, 0, 0) := by decide +kernel
theorem k99_6 : mj_look (mj_prog 99) 6 = some (.iconst 0, 1, 0, 0) := by decide +kernel
theorem k99_7 : mj_look (mj_prog 99) 7 = some (.putfield 18, 3, 10, 2) := by decide +kernel
theorem k99_10 : mj_look (mj_prog 99) 10 = some (.aload_n 0, 1, 0, 0) := by decide +kernel
theorem k99_11 : mj_look (mj_prog 99) 11 = some (.iconst 0, 1, 0, 0) := by decide +kernel
theorem k99_12 : mj_look (mj_prog 99) 12 = some (.putfield 25, 3, 10, 4) := by decide +kernel
theorem k99_15 : mj_look (mj_prog 99) 15 = some (.return_, 1, 0, 0) := by decide +kernel
theorem mx_100 : (mj_m 100).2.2.1 = 8 := by decide +kernel
theorem rt_100 : (mj_m 100).2.2.2.1 = (some FieldType.boolean) := by decide +kernel
theorem dp_100 : mj_disp 100 9 = some 100 := by decide +kernel
theorem pq_100 : mj_prog 100 = mj_p100 := rfl
theorem k100_0 : mj_look (mj_prog 100) 0 = some (.iload_n 2, 1, 0, 0) := by decide +kernel
theorem k100_1 : mj_look (mj_prog 100) 1 = some (.iconst 5, 1, 0, 0) := by decide +kernel
theorem k100_2 : mj_look (mj_prog 100) 2 = some (.if_icmp .lt 12, 3, 14, 0) := by decide +kernel
theorem k100_5 : mj_look (mj_prog 100) 5 = some (.aload_n 0, 1, 0, 0) := by decide +kernel
theorem k100_6 : mj_look (mj_prog 100) 6 = some (.aload_n 1, 1, 0, 0) := by decide +kernel
theorem k100_7 : mj_look (mj_prog 100) 7 = some (.iload_n 3, 1, 0, 0) := by decide +kernel
theorem k100_8 : mj_look (mj_prog 100) 8 = some (.iload 4, 2, 0, 0) := by decide +kernel
theorem k100_10 : mj_look (mj_prog 100) 10 = some (.invokevirtual 45, 3, 101, 3) := by decide +kernel
theorem k100_13 : mj_look (mj_prog 100) 13 = some (.ireturn, 1, 0, 0) := by decide +kernel
theorem k100_14 : mj_look (mj_prog 100) 14 = some (.aload_n 0, 1, 0, 0) := by decide +kernel
theorem k100_15 : mj_look (mj_prog 100) 15 = some (.aload_n 1, 1, 0, 0) := by decide +kernel
theorem k100_16 : mj_look (mj_prog 100) 16 = some (.iload_n 2, 1, 0, 0) := by decide +kernel
theorem k100_17 : mj_look (mj_prog 100) 17 = some (.iconst 1, 1, 0, 0) := by decide +kernel
theorem k100_18 : mj_look (mj_prog 100) 18 = some (.iadd, 1, 0, 0) := by decide +kernel
theorem k100_19 : mj_look (mj_prog 100) 19 = some (.iload_n 3, 1, 0, 0) := by decide +kernel
theorem k100_20 : mj_look (mj_prog 100) 20 = some (.iload 4, 2, 0, 0) := by decide +kernel
theorem k100_22 : mj_look (mj_prog 100) 22 = some (.invokevirtual 41, 3, 100, 4) := by decide +kernel
theorem k100_25 : mj_look (mj_prog 100) 25 = some (.ifCond .ne 5, 3, 30, 0) := by decide +kernel
theorem k100_28 : mj_look (mj_prog 100) 28 = some (.iconst 0, 1, 0, 0) := by decide +kernel
theorem k100_29 : mj_look (mj_prog 100) 29 = some (.ireturn, 1, 0, 0) := by decide +kernel
theorem k100_30 : mj_look (mj_prog 100) 30 = some (.iload_n 2, 1, 0, 0) := by decide +kernel
theorem k100_31 : mj_look (mj_prog 100) 31 = some (.iconst 2, 1, 0, 0) := by decide +kernel
theorem k100_32 : mj_look (mj_prog 100) 32 = some (.if_icmp .ne 7, 3, 39, 0) := by decide +kernel
theorem k100_35 : mj_look (mj_prog 100) 35 = some (.iconst 1, 1, 0, 0) := by decide +kernel
theorem k100_36 : mj_look (mj_prog 100) 36 = some (.goto 7, 3, 43, 0) := by decide +kernel
theorem k100_39 : mj_look (mj_prog 100) 39 = some (.aload_n 0, 1, 0, 0) := by decide +kernel
theorem k100_40 : mj_look (mj_prog 100) 40 = some (.getfield 15, 3, 9, 1) := by decide +kernel
theorem k100_43 : mj_look (mj_prog 100) 43 = some (.istore 5, 2, 0, 0) := by decide +kernel
theorem k100_45 : mj_look (mj_prog 100) 45 = some (.iconst 0, 1, 0, 0) := by decide +kernel
theorem k100_46 : mj_look (mj_prog 100) 46 = some (.istore 6, 2, 0, 0) := by decide +kernel
theorem k100_48 : mj_look (mj_prog 100) 48 = some (.iload 6, 2, 0, 0) := by decide +kernel
theorem k100_50 : mj_look (mj_prog 100) 50 = some (.iload 5, 2, 0, 0) := by decide +kernel
theorem k100_52 : mj_look (mj_prog 100) 52 = some (.if_icmp .ge 57, 3, 109, 0) := by decide +kernel
theorem k100_55 : mj_look (mj_prog 100) 55 = some (.aload_n 0, 1, 0, 0) := by decide +kernel
theorem k100_56 : mj_look (mj_prog 100) 56 = some (.iload_n 2, 1, 0, 0) := by decide +kernel
theorem k100_57 : mj_look (mj_prog 100) 57 = some (.invokestatic 49, 3, 110, 1) := by decide +kernel
theorem k100_60 : mj_look (mj_prog 100) 60 = some (.invokevirtual 53, 3, 102, 1) := by decide +kernel
theorem k100_63 : mj_look (mj_prog 100) 63 = some (.ifCond .eq 46, 3, 109, 0) := by decide +kernel
theorem k100_66 : mj_look (mj_prog 100) 66 = some (.aload_n 0, 1, 0, 0) := by decide +kernel
theorem k100_67 : mj_look (mj_prog 100) 67 = some (.getfield 9, 3, 9, 0) := by decide +kernel
theorem k100_70 : mj_look (mj_prog 100) 70 = some (.aload_n 0, 1, 0, 0) := by decide +kernel
theorem k100_71 : mj_look (mj_prog 100) 71 = some (.getfield 19, 3, 9, 2) := by decide +kernel
theorem k100_74 : mj_look (mj_prog 100) 74 = some (.iaload, 1, 0, 0) := by decide +kernel
theorem k100_75 : mj_look (mj_prog 100) 75 = some (.istore 7, 2, 0, 0) := by decide +kernel
theorem k100_77 : mj_look (mj_prog 100) 77 = some (.aload_n 0, 1, 0, 0) := by decide +kernel
theorem k100_78 : mj_look (mj_prog 100) 78 = some (.invokevirtual 28, 3, 95, 0) := by decide +kernel
theorem k100_81 : mj_look (mj_prog 100) 81 = some (.aload_n 0, 1, 0, 0) := by decide +kernel
theorem k100_82 : mj_look (mj_prog 100) 82 = some (.aload_n 1, 1, 0, 0) := by decide +kernel
theorem k100_83 : mj_look (mj_prog 100) 83 = some (.iload_n 2, 1, 0, 0) := by decide +kernel
theorem k100_84 : mj_look (mj_prog 100) 84 = some (.iconst 1, 1, 0, 0) := by decide +kernel
theorem k100_85 : mj_look (mj_prog 100) 85 = some (.iadd, 1, 0, 0) := by decide +kernel
theorem k100_86 : mj_look (mj_prog 100) 86 = some (.iload_n 3, 1, 0, 0) := by decide +kernel
theorem k100_87 : mj_look (mj_prog 100) 87 = some (.iload 4, 2, 0, 0) := by decide +kernel
theorem k100_89 : mj_look (mj_prog 100) 89 = some (.invokevirtual 41, 3, 100, 4) := by decide +kernel
theorem k100_92 : mj_look (mj_prog 100) 92 = some (.ifCond .ne 5, 3, 97, 0) := by decide +kernel
theorem k100_95 : mj_look (mj_prog 100) 95 = some (.iconst 0, 1, 0, 0) := by decide +kernel
theorem k100_96 : mj_look (mj_prog 100) 96 = some (.ireturn, 1, 0, 0) := by decide +kernel
theorem k100_97 : mj_look (mj_prog 100) 97 = some (.aload_n 1, 1, 0, 0) := by decide +kernel
theorem k100_98 : mj_look (mj_prog 100) 98 = some (.iload 7, 2, 0, 0) := by decide +kernel
theorem k100_100 : mj_look (mj_prog 100) 100 = some (.invokevirtual 57, 3, 103, 1) := by decide +kernel
theorem k100_103 : mj_look (mj_prog 100) 103 = some (.iinc 6 1, 3, 0, 0) := by decide +kernel
theorem k100_106 : mj_look (mj_prog 100) 106 = some (.goto (-58), 3, 48, 0) := by decide +kernel
theorem k100_109 : mj_look (mj_prog 100) 109 = some (.iconst 1, 1, 0, 0) := by decide +kernel
theorem k100_110 : mj_look (mj_prog 100) 110 = some (.ireturn, 1, 0, 0) := by decide +kernel
theorem mx_101 : (mj_m 101).2.2.1 = 4 := by decide +kernel
theorem rt_101 : (mj_m 101).2.2.2.1 = (some FieldType.boolean) := by decide +kernel
theorem dp_101 : mj_disp 101 9 = some 101 := by decide +kernel
theorem pq_101 : mj_prog 101 = mj_p101 := rfl
theorem k101_0 : mj_look (mj_prog 101) 0 = some (.aload_n 0, 1, 0, 0) := by decide +kernel
theorem k101_1 : mj_look (mj_prog 101) 1 = some (.ldc 60, 2, 3, 1) := by decide +kernel
theorem k101_3 : mj_look (mj_prog 101) 3 = some (.invokevirtual 53, 3, 102, 1) := by decide +kernel
theorem k101_6 : mj_look (mj_prog 101) 6 = some (.ifCond .eq 35, 3, 41, 0) := by decide +kernel
theorem k101_9 : mj_look (mj_prog 101) 9 = some (.iload_n 3, 1, 0, 0) := by decide +kernel
theorem k101_10 : mj_look (mj_prog 101) 10 = some (.bipush 8, 2, 0, 0) := by decide +kernel
theorem k101_12 : mj_look (mj_prog 101) 12 = some (.if_icmp .ge 29, 3, 41, 0) := by decide +kernel
theorem k101_15 : mj_look (mj_prog 101) 15 = some (.aload_n 0, 1, 0, 0) := by decide +kernel
theorem k101_16 : mj_look (mj_prog 101) 16 = some (.invokevirtual 28, 3, 95, 0) := by decide +kernel
theorem k101_19 : mj_look (mj_prog 101) 19 = some (.aload_n 0, 1, 0, 0) := by decide +kernel
theorem k101_20 : mj_look (mj_prog 101) 20 = some (.aload_n 1, 1, 0, 0) := by decide +kernel
theorem k101_21 : mj_look (mj_prog 101) 21 = some (.iload_n 2, 1, 0, 0) := by decide +kernel
theorem k101_22 : mj_look (mj_prog 101) 22 = some (.iload_n 3, 1, 0, 0) := by decide +kernel
theorem k101_23 : mj_look (mj_prog 101) 23 = some (.iconst 1, 1, 0, 0) := by decide +kernel
theorem k101_24 : mj_look (mj_prog 101) 24 = some (.iadd, 1, 0, 0) := by decide +kernel
theorem k101_25 : mj_look (mj_prog 101) 25 = some (.invokevirtual 45, 3, 101, 3) := by decide +kernel
theorem k101_28 : mj_look (mj_prog 101) 28 = some (.ifCond .ne 5, 3, 33, 0) := by decide +kernel
theorem k101_31 : mj_look (mj_prog 101) 31 = some (.iconst 0, 1, 0, 0) := by decide +kernel
theorem k101_32 : mj_look (mj_prog 101) 32 = some (.ireturn, 1, 0, 0) := by decide +kernel
theorem k101_33 : mj_look (mj_prog 101) 33 = some (.aload_n 1, 1, 0, 0) := by decide +kernel
theorem k101_34 : mj_look (mj_prog 101) 34 = some (.bipush 33, 2, 0, 0) := by decide +kernel
theorem k101_36 : mj_look (mj_prog 101) 36 = some (.invokevirtual 57, 3, 103, 1) := by decide +kernel
theorem k101_39 : mj_look (mj_prog 101) 39 = some (.iconst 1, 1, 0, 0) := by decide +kernel
theorem k101_40 : mj_look (mj_prog 101) 40 = some (.ireturn, 1, 0, 0) := by decide +kernel
theorem k101_41 : mj_look (mj_prog 101) 41 = some (.aload_n 0, 1, 0, 0) := by decide +kernel
theorem k101_42 : mj_look (mj_prog 101) 42 = some (.ldc 62, 2, 4, 1) := by decide +kernel
theorem k101_44 : mj_look (mj_prog 101) 44 = some (.invokevirtual 53, 3, 102, 1) := by decide +kernel
theorem k101_47 : mj_look (mj_prog 101) 47 = some (.ifCond .eq 43, 3, 90, 0) := by decide +kernel
theorem k101_50 : mj_look (mj_prog 101) 50 = some (.iload_n 2, 1, 0, 0) := by decide +kernel
theorem k101_51 : mj_look (mj_prog 101) 51 = some (.bipush 8, 2, 0, 0) := by decide +kernel
theorem k101_53 : mj_look (mj_prog 101) 53 = some (.if_icmp .ge 37, 3, 90, 0) := by decide +kernel
theorem k101_56 : mj_look (mj_prog 101) 56 = some (.aload_n 0, 1, 0, 0) := by decide +kernel
theorem k101_57 : mj_look (mj_prog 101) 57 = some (.invokevirtual 28, 3, 95, 0) := by decide +kernel
theorem k101_60 : mj_look (mj_prog 101) 60 = some (.aload_n 0, 1, 0, 0) := by decide +kernel
theorem k101_61 : mj_look (mj_prog 101) 61 = some (.aload_n 1, 1, 0, 0) := by decide +kernel
theorem k101_62 : mj_look (mj_prog 101) 62 = some (.iconst 0, 1, 0, 0) := by decide +kernel
theorem k101_63 : mj_look (mj_prog 101) 63 = some (.iload_n 2, 1, 0, 0) := by decide +kernel
theorem k101_64 : mj_look (mj_prog 101) 64 = some (.iconst 1, 1, 0, 0) := by decide +kernel
theorem k101_65 : mj_look (mj_prog 101) 65 = some (.iadd, 1, 0, 0) := by decide +kernel
theorem k101_66 : mj_look (mj_prog 101) 66 = some (.iload_n 3, 1, 0, 0) := by decide +kernel
theorem k101_67 : mj_look (mj_prog 101) 67 = some (.invokevirtual 41, 3, 100, 4) := by decide +kernel
theorem k101_70 : mj_look (mj_prog 101) 70 = some (.ifCond .eq 12, 3, 82, 0) := by decide +kernel
theorem k101_73 : mj_look (mj_prog 101) 73 = some (.aload_n 0, 1, 0, 0) := by decide +kernel
theorem k101_74 : mj_look (mj_prog 101) 74 = some (.ldc 64, 2, 5, 1) := by decide +kernel
theorem k101_76 : mj_look (mj_prog 101) 76 = some (.invokevirtual 53, 3, 102, 1) := by decide +kernel
theorem k101_79 : mj_look (mj_prog 101) 79 = some (.ifCond .ne 5, 3, 84, 0) := by decide +kernel
theorem k101_82 : mj_look (mj_prog 101) 82 = some (.iconst 0, 1, 0, 0) := by decide +kernel
theorem k101_83 : mj_look (mj_prog 101) 83 = some (.ireturn, 1, 0, 0) := by decide +kernel
theorem k101_84 : mj_look (mj_prog 101) 84 = some (.aload_n 0, 1, 0, 0) := by decide +kernel
theorem k101_85 : mj_look (mj_prog 101) 85 = some (.invokevirtual 28, 3, 95, 0) := by decide +kernel
theorem k101_88 : mj_look (mj_prog 101) 88 = some (.iconst 1, 1, 0, 0) := by decide +kernel
theorem k101_89 : mj_look (mj_prog 101) 89 = some (.ireturn, 1, 0, 0) := by decide +kernel
theorem k101_90 : mj_look (mj_prog 101) 90 = some (.aload_n 0, 1, 0, 0) := by decide +kernel
theorem k101_91 : mj_look (mj_prog 101) 91 = some (.aload_n 1, 1, 0, 0) := by decide +kernel
theorem k101_92 : mj_look (mj_prog 101) 92 = some (.invokevirtual 66, 3, 105, 1) := by decide +kernel
theorem k101_95 : mj_look (mj_prog 101) 95 = some (.ireturn, 1, 0, 0) := by decide +kernel
theorem mx_102 : (mj_m 102).2.2.1 = 2 := by decide +kernel
theorem rt_102 : (mj_m 102).2.2.2.1 = (some FieldType.boolean) := by decide +kernel
theorem dp_102 : mj_disp 102 9 = some 102 := by decide +kernel
theorem pq_102 : mj_prog 102 = mj_p102 := rfl
theorem k102_0 : mj_look (mj_prog 102) 0 = some (.aload_n 0, 1, 0, 0) := by decide +kernel
theorem k102_1 : mj_look (mj_prog 102) 1 = some (.getfield 25, 3, 9, 4) := by decide +kernel
theorem k102_4 : mj_look (mj_prog 102) 4 = some (.iconst 3, 1, 0, 0) := by decide +kernel
theorem k102_5 : mj_look (mj_prog 102) 5 = some (.if_icmp .ne 24, 3, 29, 0) := by decide +kernel
theorem k102_8 : mj_look (mj_prog 102) 8 = some (.aload_n 1, 1, 0, 0) := by decide +kernel
theorem k102_9 : mj_look (mj_prog 102) 9 = some (.aload_n 0, 1, 0, 0) := by decide +kernel
theorem k102_10 : mj_look (mj_prog 102) 10 = some (.getfield 9, 3, 9, 0) := by decide +kernel
theorem k102_13 : mj_look (mj_prog 102) 13 = some (.aload_n 0, 1, 0, 0) := by decide +kernel
theorem k102_14 : mj_look (mj_prog 102) 14 = some (.getfield 19, 3, 9, 2) := by decide +kernel
theorem k102_17 : mj_look (mj_prog 102) 17 = some (.iaload, 1, 0, 0) := by decide +kernel
theorem k102_18 : mj_look (mj_prog 102) 18 = some (.i2c, 1, 0, 0) := by decide +kernel
theorem k102_19 : mj_look (mj_prog 102) 19 = some (.invokevirtual 99, 3, 3004, 1) := by decide +kernel
theorem k102_22 : mj_look (mj_prog 102) 22 = some (.ifCond .lt 7, 3, 29, 0) := by decide +kernel
theorem k102_25 : mj_look (mj_prog 102) 25 = some (.iconst 1, 1, 0, 0) := by decide +kernel
theorem k102_26 : mj_look (mj_prog 102) 26 = some (.goto 4, 3, 30, 0) := by decide +kernel
theorem k102_29 : mj_look (mj_prog 102) 29 = some (.iconst 0, 1, 0, 0) := by decide +kernel
theorem k102_30 : mj_look (mj_prog 102) 30 = some (.ireturn, 1, 0, 0) := by decide +kernel
theorem mx_103 : (mj_m 103).2.2.1 = 2 := by decide +kernel
theorem rt_103 : (mj_m 103).2.2.2.1 = none := by decide +kernel
theorem dp_103 : mj_disp 103 10 = some 103 := by decide +kernel
theorem pq_103 : mj_prog 103 = mj_p103 := rfl
theorem k103_0 : mj_look (mj_prog 103) 0 = some (.aload_n 0, 1, 0, 0) := by decide +kernel
theorem k103_1 : mj_look (mj_prog 103) 1 = some (.sipush 10000, 3, 0, 0) := by decide +kernel
theorem k103_4 : mj_look (mj_prog 103) 4 = some (.iload_n 1, 1, 0, 0) := by decide +kernel
theorem k103_5 : mj_look (mj_prog 103) 5 = some (.iadd, 1, 0, 0) := by decide +kernel
theorem k103_6 : mj_look (mj_prog 103) 6 = some (.invokevirtual 28, 3, 104, 1) := by decide +kernel
theorem k103_9 : mj_look (mj_prog 103) 9 = some (.return_, 1, 0, 0) := by decide +kernel
theorem mx_104 : (mj_m 104).2.2.1 = 2 := by decide +kernel
theorem rt_104 : (mj_m 104).2.2.2.1 = none := by decide +kernel
theorem dp_104 : mj_disp 104 10 = some 104 := by decide +kernel
theorem pq_104 : mj_prog 104 = mj_p104 := rfl
theorem k104_0 : mj_look (mj_prog 104) 0 = some (.aload_n 0, 1, 0, 0) := by decide +kernel
theorem k104_1 : mj_look (mj_prog 104) 1 = some (.getfield 18, 3, 10, 2) := by decide +kernel
theorem k104_4 : mj_look (mj_prog 104) 4 = some (.aload_n 0, 1, 0, 0) := by decide +kernel
theorem k104_5 : mj_look (mj_prog 104) 5 = some (.getfield 9, 3, 10, 0) := by decide +kernel
theorem k104_8 : mj_look (mj_prog 104) 8 = some (.arraylength, 1, 0, 0) := by decide +kernel
theorem k104_9 : mj_look (mj_prog 104) 9 = some (.if_icmp .ge 23, 3, 32, 0) := by decide +kernel
theorem k104_12 : mj_look (mj_prog 104) 12 = some (.aload_n 0, 1, 0, 0) := by decide +kernel
theorem k104_13 : mj_look (mj_prog 104) 13 = some (.getfield 9, 3, 10, 0) := by decide +kernel
theorem k104_16 : mj_look (mj_prog 104) 16 = some (.aload_n 0, 1, 0, 0) := by decide +kernel
theorem k104_17 : mj_look (mj_prog 104) 17 = some (.getfield 18, 3, 10, 2) := by decide +kernel
theorem k104_20 : mj_look (mj_prog 104) 20 = some (.iload_n 1, 1, 0, 0) := by decide +kernel
theorem k104_21 : mj_look (mj_prog 104) 21 = some (.iastore, 1, 0, 0) := by decide +kernel
theorem k104_22 : mj_look (mj_prog 104) 22 = some (.aload_n 0, 1, 0, 0) := by decide +kernel
theorem k104_23 : mj_look (mj_prog 104) 23 = some (.dup, 1, 0, 0) := by decide +kernel
theorem k104_24 : mj_look (mj_prog 104) 24 = some (.getfield 18, 3, 10, 2) := by decide +kernel
theorem k104_27 : mj_look (mj_prog 104) 27 = some (.iconst 1, 1, 0, 0) := by decide +kernel
theorem k104_28 : mj_look (mj_prog 104) 28 = some (.iadd, 1, 0, 0) := by decide +kernel
theorem k104_29 : mj_look (mj_prog 104) 29 = some (.putfield 18, 3, 10, 2) := by decide +kernel
theorem k104_32 : mj_look (mj_prog 104) 32 = some (.return_, 1, 0, 0) := by decide +kernel
theorem mx_105 : (mj_m 105).2.2.1 = 3 := by decide +kernel
theorem rt_105 : (mj_m 105).2.2.2.1 = (some FieldType.boolean) := by decide +kernel
theorem dp_105 : mj_disp 105 9 = some 105 := by decide +kernel
theorem pq_105 : mj_prog 105 = mj_p105 := rfl
theorem k105_0 : mj_look (mj_prog 105) 0 = some (.aload_n 0, 1, 0, 0) := by decide +kernel
theorem k105_1 : mj_look (mj_prog 105) 1 = some (.aload_n 1, 1, 0, 0) := by decide +kernel
theorem k105_2 : mj_look (mj_prog 105) 2 = some (.getfield 70, 3, 10, 3) := by decide +kernel
theorem k105_5 : mj_look (mj_prog 105) 5 = some (.invokevirtual 73, 3, 106, 1) := by decide +kernel
theorem k105_8 : mj_look (mj_prog 105) 8 = some (.istore_n 2, 1, 0, 0) := by decide +kernel
theorem k105_9 : mj_look (mj_prog 105) 9 = some (.aload_n 0, 1, 0, 0) := by decide +kernel
theorem k105_10 : mj_look (mj_prog 105) 10 = some (.getfield 25, 3, 9, 4) := by decide +kernel
theorem k105_13 : mj_look (mj_prog 105) 13 = some (.iconst 2, 1, 0, 0) := by decide +kernel
theorem k105_14 : mj_look (mj_prog 105) 14 = some (.if_icmp .ne 14, 3, 28, 0) := by decide +kernel
theorem k105_17 : mj_look (mj_prog 105) 17 = some (.aload_n 1, 1, 0, 0) := by decide +kernel
theorem k105_18 : mj_look (mj_prog 105) 18 = some (.aload_n 0, 1, 0, 0) := by decide +kernel
theorem k105_19 : mj_look (mj_prog 105) 19 = some (.invokevirtual 77, 3, 107, 0) := by decide +kernel
theorem k105_22 : mj_look (mj_prog 105) 22 = some (.invokevirtual 80, 3, 108, 1) := by decide +kernel
theorem k105_25 : mj_look (mj_prog 105) 25 = some (.goto 17, 3, 42, 0) := by decide +kernel
theorem k105_28 : mj_look (mj_prog 105) 28 = some (.iload_n 2, 1, 0, 0) := by decide +kernel
theorem k105_29 : mj_look (mj_prog 105) 29 = some (.ifCond .lt 11, 3, 40, 0) := by decide +kernel
theorem k105_32 : mj_look (mj_prog 105) 32 = some (.aload_n 1, 1, 0, 0) := by decide +kernel
theorem k105_33 : mj_look (mj_prog 105) 33 = some (.iload_n 2, 1, 0, 0) := by decide +kernel
theorem k105_34 : mj_look (mj_prog 105) 34 = some (.invokevirtual 83, 3, 109, 1) := by decide +kernel
theorem k105_37 : mj_look (mj_prog 105) 37 = some (.goto 5, 3, 42, 0) := by decide +kernel
theorem k105_40 : mj_look (mj_prog 105) 40 = some (.iconst 0, 1, 0, 0) := by decide +kernel
theorem k105_41 : mj_look (mj_prog 105) 41 = some (.ireturn, 1, 0, 0) := by decide +kernel
theorem k105_42 : mj_look (mj_prog 105) 42 = some (.aload_n 0, 1, 0, 0) := by decide +kernel
theorem k105_43 : mj_look (mj_prog 105) 43 = some (.invokevirtual 28, 3, 95, 0) := by decide +kernel
theorem k105_46 : mj_look (mj_prog 105) 46 = some (.iconst 1, 1, 0, 0) := by decide +kernel
theorem k105_47 : mj_look (mj_prog 105) 47 = some (.ireturn, 1, 0, 0) := by decide +kernel
theorem mx_106 : (mj_m 106).2.2.1 = 3 := by decide +kernel
theorem rt_106 : (mj_m 106).2.2.2.1 = (some FieldType.int) := by decide +kernel
theorem dp_106 : mj_disp 106 9 = some 106 := by decide +kernel
theorem pq_106 : mj_prog 106 = mj_p106 := rfl
theorem k106_0 : mj_look (mj_prog 106) 0 = some (.aload_n 0, 1, 0, 0) := by decide +kernel
theorem k106_1 : mj_look (mj_prog 106) 1 = some (.getfield 25, 3, 9, 4) := by decide +kernel
theorem k106_4 : mj_look (mj_prog 106) 4 = some (.iconst 1, 1, 0, 0) := by decide +kernel
theorem k106_5 : mj_look (mj_prog 106) 5 = some (.if_icmp .ne 16, 3, 21, 0) := by decide +kernel
theorem k106_8 : mj_look (mj_prog 106) 8 = some (.aload_n 0, 1, 0, 0) := by decide +kernel
theorem k106_9 : mj_look (mj_prog 106) 9 = some (.getfield 22, 3, 9, 3) := by decide +kernel
theorem k106_12 : mj_look (mj_prog 106) 12 = some (.aload_n 0, 1, 0, 0) := by decide +kernel
theorem k106_13 : mj_look (mj_prog 106) 13 = some (.getfield 19, 3, 9, 2) := by decide +kernel
theorem k106_16 : mj_look (mj_prog 106) 16 = some (.isub, 1, 0, 0) := by decide +kernel
theorem k106_17 : mj_look (mj_prog 106) 17 = some (.iconst 1, 1, 0, 0) := by decide +kernel
theorem k106_18 : mj_look (mj_prog 106) 18 = some (.if_icmp .eq 5, 3, 23, 0) := by decide +kernel
theorem k106_21 : mj_look (mj_prog 106) 21 = some (.iconst (-1), 1, 0, 0) := by decide +kernel
theorem k106_22 : mj_look (mj_prog 106) 22 = some (.ireturn, 1, 0, 0) := by decide +kernel
theorem k106_23 : mj_look (mj_prog 106) 23 = some (.iload_n 1, 1, 0, 0) := by decide +kernel
theorem k106_24 : mj_look (mj_prog 106) 24 = some (.ifCond .ne 8, 3, 32, 0) := by decide +kernel
theorem k106_27 : mj_look (mj_prog 106) 27 = some (.ldc 119, 2, 6, 1) := by decide +kernel
theorem k106_29 : mj_look (mj_prog 106) 29 = some (.goto 15, 3, 44, 0) := by decide +kernel
theorem k106_32 : mj_look (mj_prog 106) 32 = some (.iload_n 1, 1, 0, 0) := by decide +kernel
theorem k106_33 : mj_look (mj_prog 106) 33 = some (.iconst 1, 1, 0, 0) := by decide +kernel
theorem k106_34 : mj_look (mj_prog 106) 34 = some (.if_icmp .ne 8, 3, 42, 0) := by decide +kernel
theorem k106_37 : mj_look (mj_prog 106) 37 = some (.ldc 121, 2, 7, 1) := by decide +kernel
theorem k106_39 : mj_look (mj_prog 106) 39 = some (.goto 5, 3, 44, 0) := by decide +kernel
theorem k106_42 : mj_look (mj_prog 106) 42 = some (.ldc 123, 2, 8, 1) := by decide +kernel
theorem k106_44 : mj_look (mj_prog 106) 44 = some (.astore_n 2, 1, 0, 0) := by decide +kernel
theorem k106_45 : mj_look (mj_prog 106) 45 = some (.aload_n 2, 1, 0, 0) := by decide +kernel
theorem k106_46 : mj_look (mj_prog 106) 46 = some (.aload_n 0, 1, 0, 0) := by decide +kernel
theorem k106_47 : mj_look (mj_prog 106) 47 = some (.getfield 9, 3, 9, 0) := by decide +kernel
theorem k106_50 : mj_look (mj_prog 106) 50 = some (.aload_n 0, 1, 0, 0) := by decide +kernel
theorem k106_51 : mj_look (mj_prog 106) 51 = some (.getfield 19, 3, 9, 2) := by decide +kernel
theorem k106_54 : mj_look (mj_prog 106) 54 = some (.iaload, 1, 0, 0) := by decide +kernel
theorem k106_55 : mj_look (mj_prog 106) 55 = some (.i2c, 1, 0, 0) := by decide +kernel
theorem k106_56 : mj_look (mj_prog 106) 56 = some (.invokevirtual 99, 3, 3004, 1) := by decide +kernel
theorem k106_59 : mj_look (mj_prog 106) 59 = some (.ireturn, 1, 0, 0) := by decide +kernel
theorem mx_107 : (mj_m 107).2.2.1 = 3 := by decide +kernel
theorem rt_107 : (mj_m 107).2.2.2.1 = (some FieldType.int) := by decide +kernel
theorem dp_107 : mj_disp 107 9 = some 107 := by decide +kernel
theorem pq_107 : mj_prog 107 = mj_p107 := rfl
theorem k107_0 : mj_look (mj_prog 107) 0 = some (.iconst 0, 1, 0, 0) := by decide +kernel
theorem k107_1 : mj_look (mj_prog 107) 1 = some (.istore_n 1, 1, 0, 0) := by decide +kernel
theorem k107_2 : mj_look (mj_prog 107) 2 = some (.aload_n 0, 1, 0, 0) := by decide +kernel
theorem k107_3 : mj_look (mj_prog 107) 3 = some (.getfield 19, 3, 9, 2) := by decide +kernel
theorem k107_6 : mj_look (mj_prog 107) 6 = some (.istore_n 2, 1, 0, 0) := by decide +kernel
theorem k107_7 : mj_look (mj_prog 107) 7 = some (.iload_n 2, 1, 0, 0) := by decide +kernel
theorem k107_8 : mj_look (mj_prog 107) 8 = some (.aload_n 0, 1, 0, 0) := by decide +kernel
theorem k107_9 : mj_look (mj_prog 107) 9 = some (.getfield 22, 3, 9, 3) := by decide +kernel
theorem k107_12 : mj_look (mj_prog 107) 12 = some (.if_icmp .ge 24, 3, 36, 0) := by decide +kernel
theorem k107_15 : mj_look (mj_prog 107) 15 = some (.bipush 10, 2, 0, 0) := by decide +kernel
theorem k107_17 : mj_look (mj_prog 107) 17 = some (.iload_n 1, 1, 0, 0) := by decide +kernel
theorem k107_18 : mj_look (mj_prog 107) 18 = some (.imul, 1, 0, 0) := by decide +kernel
theorem k107_19 : mj_look (mj_prog 107) 19 = some (.aload_n 0, 1, 0, 0) := by decide +kernel
theorem k107_20 : mj_look (mj_prog 107) 20 = some (.getfield 9, 3, 9, 0) := by decide +kernel
theorem k107_23 : mj_look (mj_prog 107) 23 = some (.iload_n 2, 1, 0, 0) := by decide +kernel
theorem k107_24 : mj_look (mj_prog 107) 24 = some (.iaload, 1, 0, 0) := by decide +kernel
theorem k107_25 : mj_look (mj_prog 107) 25 = some (.iadd, 1, 0, 0) := by decide +kernel
theorem k107_26 : mj_look (mj_prog 107) 26 = some (.bipush 48, 2, 0, 0) := by decide +kernel
theorem k107_28 : mj_look (mj_prog 107) 28 = some (.isub, 1, 0, 0) := by decide +kernel
theorem k107_29 : mj_look (mj_prog 107) 29 = some (.istore_n 1, 1, 0, 0) := by decide +kernel
theorem k107_30 : mj_look (mj_prog 107) 30 = some (.iinc 2 1, 3, 0, 0) := by decide +kernel
theorem k107_33 : mj_look (mj_prog 107) 33 = some (.goto (-26), 3, 7, 0) := by decide +kernel
theorem k107_36 : mj_look (mj_prog 107) 36 = some (.iload_n 1, 1, 0, 0) := by decide +kernel
theorem k107_37 : mj_look (mj_prog 107) 37 = some (.ireturn, 1, 0, 0) := by decide +kernel
theorem mx_108 : (mj_m 108).2.2.1 = 2 := by decide +kernel
theorem rt_108 : (mj_m 108).2.2.2.1 = none := by decide +kernel
theorem dp_108 : mj_disp 108 10 = some 108 := by decide +kernel
theorem pq_108 : mj_prog 108 = mj_p108 := rfl
theorem k108_0 : mj_look (mj_prog 108) 0 = some (.aload_n 0, 1, 0, 0) := by decide +kernel
theorem k108_1 : mj_look (mj_prog 108) 1 = some (.iload_n 1, 1, 0, 0) := by decide +kernel
theorem k108_2 : mj_look (mj_prog 108) 2 = some (.invokevirtual 28, 3, 104, 1) := by decide +kernel
theorem k108_5 : mj_look (mj_prog 108) 5 = some (.aload_n 0, 1, 0, 0) := by decide +kernel
theorem k108_6 : mj_look (mj_prog 108) 6 = some (.dup, 1, 0, 0) := by decide +kernel
theorem k108_7 : mj_look (mj_prog 108) 7 = some (.getfield 25, 3, 10, 4) := by decide +kernel
theorem k108_10 : mj_look (mj_prog 108) 10 = some (.iconst 1, 1, 0, 0) := by decide +kernel
theorem k108_11 : mj_look (mj_prog 108) 11 = some (.iadd, 1, 0, 0) := by decide +kernel
theorem k108_12 : mj_look (mj_prog 108) 12 = some (.putfield 25, 3, 10, 4) := by decide +kernel
theorem k108_15 : mj_look (mj_prog 108) 15 = some (.return_, 1, 0, 0) := by decide +kernel
theorem mx_109 : (mj_m 109).2.2.1 = 2 := by decide +kernel
theorem rt_109 : (mj_m 109).2.2.2.1 = none := by decide +kernel
theorem dp_109 : mj_disp 109 10 = some 109 := by decide +kernel
theorem pq_109 : mj_prog 109 = mj_p109 := rfl
theorem k109_0 : mj_look (mj_prog 109) 0 = some (.aload_n 0, 1, 0, 0) := by decide +kernel
theorem k109_1 : mj_look (mj_prog 109) 1 = some (.iconst (-1), 1, 0, 0) := by decide +kernel
theorem k109_2 : mj_look (mj_prog 109) 2 = some (.iload_n 1, 1, 0, 0) := by decide +kernel
theorem k109_3 : mj_look (mj_prog 109) 3 = some (.isub, 1, 0, 0) := by decide +kernel
theorem k109_4 : mj_look (mj_prog 109) 4 = some (.invokevirtual 28, 3, 104, 1) := by decide +kernel
theorem k109_7 : mj_look (mj_prog 109) 7 = some (.aload_n 0, 1, 0, 0) := by decide +kernel
theorem k109_8 : mj_look (mj_prog 109) 8 = some (.dup, 1, 0, 0) := by decide +kernel
theorem k109_9 : mj_look (mj_prog 109) 9 = some (.getfield 25, 3, 10, 4) := by decide +kernel
theorem k109_12 : mj_look (mj_prog 109) 12 = some (.iconst 1, 1, 0, 0) := by decide +kernel
theorem k109_13 : mj_look (mj_prog 109) 13 = some (.iadd, 1, 0, 0) := by decide +kernel
theorem k109_14 : mj_look (mj_prog 109) 14 = some (.putfield 25, 3, 10, 4) := by decide +kernel
theorem k109_17 : mj_look (mj_prog 109) 17 = some (.return_, 1, 0, 0) := by decide +kernel
