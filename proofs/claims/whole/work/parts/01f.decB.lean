theorem dX10_init_0 : decode cX10_init 0 = .ok (.aload_n 0, 1) := by decide +kernel
theorem dX10_init_1 : decode cX10_init 1 = .ok (.invokespecial 1, 3) := by decide +kernel
theorem dX10_init_4 : decode cX10_init 4 = .ok (.aload_n 0, 1) := by decide +kernel
theorem dX10_init_5 : decode cX10_init 5 = .ok (.iconst 4, 1) := by decide +kernel
theorem dX10_init_6 : decode cX10_init 6 = .ok (.anewarray 9, 3) := by decide +kernel
theorem dX10_init_9 : decode cX10_init 9 = .ok (.putfield 11, 3) := by decide +kernel
theorem dX10_init_12 : decode cX10_init 12 = .ok (.aload_n 0, 1) := by decide +kernel
theorem dX10_init_13 : decode cX10_init 13 = .ok (.sipush 900, 3) := by decide +kernel
theorem dX10_init_16 : decode cX10_init 16 = .ok (.newarray .byte, 2) := by decide +kernel
theorem dX10_init_18 : decode cX10_init 18 = .ok (.putfield 15, 3) := by decide +kernel
theorem dX10_init_21 : decode cX10_init 21 = .ok (.aload_n 0, 1) := by decide +kernel
theorem dX10_init_22 : decode cX10_init 22 = .ok (.new 19, 3) := by decide +kernel
theorem dX10_init_25 : decode cX10_init 25 = .ok (.dup, 1) := by decide +kernel
theorem dX10_init_26 : decode cX10_init 26 = .ok (.invokespecial 21, 3) := by decide +kernel
theorem dX10_init_29 : decode cX10_init 29 = .ok (.putfield 22, 3) := by decide +kernel
theorem dX10_init_32 : decode cX10_init 32 = .ok (.aload_n 0, 1) := by decide +kernel
theorem dX10_init_33 : decode cX10_init 33 = .ok (.new 26, 3) := by decide +kernel
theorem dX10_init_36 : decode cX10_init 36 = .ok (.dup, 1) := by decide +kernel
theorem dX10_init_37 : decode cX10_init 37 = .ok (.invokespecial 28, 3) := by decide +kernel
theorem dX10_init_40 : decode cX10_init 40 = .ok (.putfield 29, 3) := by decide +kernel
theorem dX10_init_43 : decode cX10_init 43 = .ok (.aload_n 0, 1) := by decide +kernel
theorem dX10_init_44 : decode cX10_init 44 = .ok (.iconst 3, 1) := by decide +kernel
theorem dX10_init_45 : decode cX10_init 45 = .ok (.anewarray 19, 3) := by decide +kernel
theorem dX10_init_48 : decode cX10_init 48 = .ok (.putfield 33, 3) := by decide +kernel
theorem dX10_init_51 : decode cX10_init 51 = .ok (.aload_n 0, 1) := by decide +kernel
theorem dX10_init_52 : decode cX10_init 52 = .ok (.iconst 3, 1) := by decide +kernel
theorem dX10_init_53 : decode cX10_init 53 = .ok (.anewarray 26, 3) := by decide +kernel
theorem dX10_init_56 : decode cX10_init 56 = .ok (.putfield 37, 3) := by decide +kernel
theorem dX10_init_59 : decode cX10_init 59 = .ok (.aload_n 0, 1) := by decide +kernel
theorem dX10_init_60 : decode cX10_init 60 = .ok (.new 19, 3) := by decide +kernel
theorem dX10_init_63 : decode cX10_init 63 = .ok (.dup, 1) := by decide +kernel
theorem dX10_init_64 : decode cX10_init 64 = .ok (.invokespecial 21, 3) := by decide +kernel
theorem dX10_init_67 : decode cX10_init 67 = .ok (.putfield 41, 3) := by decide +kernel
theorem dX10_init_70 : decode cX10_init 70 = .ok (.aload_n 0, 1) := by decide +kernel
theorem dX10_init_71 : decode cX10_init 71 = .ok (.new 26, 3) := by decide +kernel
theorem dX10_init_74 : decode cX10_init 74 = .ok (.dup, 1) := by decide +kernel
theorem dX10_init_75 : decode cX10_init 75 = .ok (.invokespecial 28, 3) := by decide +kernel
theorem dX10_init_78 : decode cX10_init 78 = .ok (.putfield 44, 3) := by decide +kernel
theorem dX10_init_81 : decode cX10_init 81 = .ok (.aload_n 0, 1) := by decide +kernel
theorem dX10_init_82 : decode cX10_init 82 = .ok (.new 47, 3) := by decide +kernel
theorem dX10_init_85 : decode cX10_init 85 = .ok (.dup, 1) := by decide +kernel
theorem dX10_init_86 : decode cX10_init 86 = .ok (.aload_n 0, 1) := by decide +kernel
theorem dX10_init_87 : decode cX10_init 87 = .ok (.getfield 15, 3) := by decide +kernel
theorem dX10_init_90 : decode cX10_init 90 = .ok (.invokespecial 49, 3) := by decide +kernel
theorem dX10_init_93 : decode cX10_init 93 = .ok (.putfield 52, 3) := by decide +kernel
theorem dX10_init_96 : decode cX10_init 96 = .ok (.aload_n 0, 1) := by decide +kernel
theorem dX10_init_97 : decode cX10_init 97 = .ok (.new 56, 3) := by decide +kernel
theorem dX10_init_100 : decode cX10_init 100 = .ok (.dup, 1) := by decide +kernel
theorem dX10_init_101 : decode cX10_init 101 = .ok (.aload_n 0, 1) := by decide +kernel
theorem dX10_init_102 : decode cX10_init 102 = .ok (.getfield 52, 3) := by decide +kernel
theorem dX10_init_105 : decode cX10_init 105 = .ok (.aload_n 0, 1) := by decide +kernel
theorem dX10_init_106 : decode cX10_init 106 = .ok (.getfield 41, 3) := by decide +kernel
theorem dX10_init_109 : decode cX10_init 109 = .ok (.invokespecial 58, 3) := by decide +kernel
theorem dX10_init_112 : decode cX10_init 112 = .ok (.putfield 61, 3) := by decide +kernel
theorem dX10_init_115 : decode cX10_init 115 = .ok (.aload_n 0, 1) := by decide +kernel
theorem dX10_init_116 : decode cX10_init 116 = .ok (.new 65, 3) := by decide +kernel
theorem dX10_init_119 : decode cX10_init 119 = .ok (.dup, 1) := by decide +kernel
theorem dX10_init_120 : decode cX10_init 120 = .ok (.aload_n 0, 1) := by decide +kernel
theorem dX10_init_121 : decode cX10_init 121 = .ok (.getfield 52, 3) := by decide +kernel
theorem dX10_init_124 : decode cX10_init 124 = .ok (.aload_n 0, 1) := by decide +kernel
theorem dX10_init_125 : decode cX10_init 125 = .ok (.getfield 44, 3) := by decide +kernel
theorem dX10_init_128 : decode cX10_init 128 = .ok (.aload_n 0, 1) := by decide +kernel
theorem dX10_init_129 : decode cX10_init 129 = .ok (.getfield 22, 3) := by decide +kernel
theorem dX10_init_132 : decode cX10_init 132 = .ok (.invokespecial 67, 3) := by decide +kernel
theorem dX10_init_135 : decode cX10_init 135 = .ok (.putfield 70, 3) := by decide +kernel
theorem dX10_init_138 : decode cX10_init 138 = .ok (.aload_n 0, 1) := by decide +kernel
theorem dX10_init_139 : decode cX10_init 139 = .ok (.new 74, 3) := by decide +kernel
theorem dX10_init_142 : decode cX10_init 142 = .ok (.dup, 1) := by decide +kernel
theorem dX10_init_143 : decode cX10_init 143 = .ok (.aload_n 0, 1) := by decide +kernel
theorem dX10_init_144 : decode cX10_init 144 = .ok (.getfield 29, 3) := by decide +kernel
theorem dX10_init_147 : decode cX10_init 147 = .ok (.aload_n 0, 1) := by decide +kernel
theorem dX10_init_148 : decode cX10_init 148 = .ok (.getfield 22, 3) := by decide +kernel
theorem dX10_init_151 : decode cX10_init 151 = .ok (.invokespecial 76, 3) := by decide +kernel
theorem dX10_init_154 : decode cX10_init 154 = .ok (.putfield 79, 3) := by decide +kernel
theorem dX10_init_157 : decode cX10_init 157 = .ok (.aload_n 0, 1) := by decide +kernel
theorem dX10_init_158 : decode cX10_init 158 = .ok (.new 83, 3) := by decide +kernel
theorem dX10_init_161 : decode cX10_init 161 = .ok (.dup, 1) := by decide +kernel
theorem dX10_init_162 : decode cX10_init 162 = .ok (.aload_n 0, 1) := by decide +kernel
theorem dX10_init_163 : decode cX10_init 163 = .ok (.getfield 22, 3) := by decide +kernel
theorem dX10_init_166 : decode cX10_init 166 = .ok (.invokespecial 85, 3) := by decide +kernel
theorem dX10_init_169 : decode cX10_init 169 = .ok (.putfield 88, 3) := by decide +kernel
theorem dX10_init_172 : decode cX10_init 172 = .ok (.aload_n 0, 1) := by decide +kernel
theorem dX10_init_173 : decode cX10_init 173 = .ok (.new 92, 3) := by decide +kernel
theorem dX10_init_176 : decode cX10_init 176 = .ok (.dup, 1) := by decide +kernel
theorem dX10_init_177 : decode cX10_init 177 = .ok (.aload_n 0, 1) := by decide +kernel
theorem dX10_init_178 : decode cX10_init 178 = .ok (.getfield 22, 3) := by decide +kernel
theorem dX10_init_181 : decode cX10_init 181 = .ok (.invokespecial 94, 3) := by decide +kernel
theorem dX10_init_184 : decode cX10_init 184 = .ok (.putfield 95, 3) := by decide +kernel
theorem dX10_init_187 : decode cX10_init 187 = .ok (.aload_n 0, 1) := by decide +kernel
theorem dX10_init_188 : decode cX10_init 188 = .ok (.new 99, 3) := by decide +kernel
theorem dX10_init_191 : decode cX10_init 191 = .ok (.dup, 1) := by decide +kernel
theorem dX10_init_192 : decode cX10_init 192 = .ok (.invokespecial 101, 3) := by decide +kernel
theorem dX10_init_195 : decode cX10_init 195 = .ok (.putfield 102, 3) := by decide +kernel
theorem dX10_init_198 : decode cX10_init 198 = .ok (.aload_n 0, 1) := by decide +kernel
theorem dX10_init_199 : decode cX10_init 199 = .ok (.iconst (-1), 1) := by decide +kernel
theorem dX10_init_200 : decode cX10_init 200 = .ok (.putfield 106, 3) := by decide +kernel
theorem dX10_init_203 : decode cX10_init 203 = .ok (.aload_n 0, 1) := by decide +kernel
theorem dX10_init_204 : decode cX10_init 204 = .ok (.iconst (-1), 1) := by decide +kernel
theorem dX10_init_205 : decode cX10_init 205 = .ok (.putfield 110, 3) := by decide +kernel
theorem dX10_init_208 : decode cX10_init 208 = .ok (.iconst 0, 1) := by decide +kernel
theorem dX10_init_209 : decode cX10_init 209 = .ok (.istore_n 1, 1) := by decide +kernel
theorem dX10_init_210 : decode cX10_init 210 = .ok (.iload_n 1, 1) := by decide +kernel
theorem dX10_init_211 : decode cX10_init 211 = .ok (.iconst 4, 1) := by decide +kernel
theorem dX10_init_212 : decode cX10_init 212 = .ok (.if_icmp .ge 22, 3) := by decide +kernel
theorem dX10_init_215 : decode cX10_init 215 = .ok (.aload_n 0, 1) := by decide +kernel
theorem dX10_init_216 : decode cX10_init 216 = .ok (.getfield 11, 3) := by decide +kernel
theorem dX10_init_219 : decode cX10_init 219 = .ok (.iload_n 1, 1) := by decide +kernel
theorem dX10_init_220 : decode cX10_init 220 = .ok (.new 9, 3) := by decide +kernel
theorem dX10_init_223 : decode cX10_init 223 = .ok (.dup, 1) := by decide +kernel
theorem dX10_init_224 : decode cX10_init 224 = .ok (.invokespecial 113, 3) := by decide +kernel
theorem dX10_init_227 : decode cX10_init 227 = .ok (.aastore, 1) := by decide +kernel
theorem dX10_init_228 : decode cX10_init 228 = .ok (.iinc 1 1, 3) := by decide +kernel
theorem dX10_init_231 : decode cX10_init 231 = .ok (.goto (-21), 3) := by decide +kernel
theorem dX10_init_234 : decode cX10_init 234 = .ok (.iconst 0, 1) := by decide +kernel
theorem dX10_init_235 : decode cX10_init 235 = .ok (.istore_n 1, 1) := by decide +kernel
theorem dX10_init_236 : decode cX10_init 236 = .ok (.iload_n 1, 1) := by decide +kernel
theorem dX10_init_237 : decode cX10_init 237 = .ok (.iconst 3, 1) := by decide +kernel
theorem dX10_init_238 : decode cX10_init 238 = .ok (.if_icmp .ge 35, 3) := by decide +kernel
theorem dX10_init_241 : decode cX10_init 241 = .ok (.aload_n 0, 1) := by decide +kernel
theorem dX10_init_242 : decode cX10_init 242 = .ok (.getfield 33, 3) := by decide +kernel
theorem dX10_init_245 : decode cX10_init 245 = .ok (.iload_n 1, 1) := by decide +kernel
theorem dX10_init_246 : decode cX10_init 246 = .ok (.new 19, 3) := by decide +kernel
theorem dX10_init_249 : decode cX10_init 249 = .ok (.dup, 1) := by decide +kernel
theorem dX10_init_250 : decode cX10_init 250 = .ok (.invokespecial 21, 3) := by decide +kernel
theorem dX10_init_253 : decode cX10_init 253 = .ok (.aastore, 1) := by decide +kernel
theorem dX10_init_254 : decode cX10_init 254 = .ok (.aload_n 0, 1) := by decide +kernel
theorem dX10_init_255 : decode cX10_init 255 = .ok (.getfield 37, 3) := by decide +kernel
theorem dX10_init_258 : decode cX10_init 258 = .ok (.iload_n 1, 1) := by decide +kernel
theorem dX10_init_259 : decode cX10_init 259 = .ok (.new 26, 3) := by decide +kernel
theorem dX10_init_262 : decode cX10_init 262 = .ok (.dup, 1) := by decide +kernel
theorem dX10_init_263 : decode cX10_init 263 = .ok (.invokespecial 28, 3) := by decide +kernel
theorem dX10_init_266 : decode cX10_init 266 = .ok (.aastore, 1) := by decide +kernel
theorem dX10_init_267 : decode cX10_init 267 = .ok (.iinc 1 1, 3) := by decide +kernel
theorem dX10_init_270 : decode cX10_init 270 = .ok (.goto (-34), 3) := by decide +kernel
theorem dX10_init_273 : decode cX10_init 273 = .ok (.return_, 1) := by decide +kernel
theorem dX10_status_0 : decode cX10_status 0 = .ok (.aload_n 0, 1) := by decide +kernel
theorem dX10_status_1 : decode cX10_status 1 = .ok (.getfield 114, 3) := by decide +kernel
theorem dX10_status_4 : decode cX10_status 4 = .ok (.ireturn, 1) := by decide +kernel
theorem dX10_top_0 : decode cX10_top 0 = .ok (.aload_n 0, 1) := by decide +kernel
theorem dX10_top_1 : decode cX10_top 1 = .ok (.getfield 102, 3) := by decide +kernel
theorem dX10_top_4 : decode cX10_top 4 = .ok (.getfield 117, 3) := by decide +kernel
theorem dX10_top_7 : decode cX10_top 7 = .ok (.lreturn, 1) := by decide +kernel
theorem dX10_bottom_0 : decode cX10_bottom 0 = .ok (.aload_n 0, 1) := by decide +kernel
theorem dX10_bottom_1 : decode cX10_bottom 1 = .ok (.getfield 102, 3) := by decide +kernel
theorem dX10_bottom_4 : decode cX10_bottom 4 = .ok (.getfield 121, 3) := by decide +kernel
theorem dX10_bottom_7 : decode cX10_bottom 7 = .ok (.lreturn, 1) := by decide +kernel
theorem dX10_tray_0 : decode cX10_tray 0 = .ok (.iload_n 1, 1) := by decide +kernel
theorem dX10_tray_1 : decode cX10_tray 1 = .ok (.invokestatic 124, 3) := by decide +kernel
theorem dX10_tray_4 : decode cX10_tray 4 = .ok (.ifCond .eq 22, 3) := by decide +kernel
theorem dX10_tray_7 : decode cX10_tray 7 = .ok (.iload_n 2, 1) := by decide +kernel
theorem dX10_tray_8 : decode cX10_tray 8 = .ok (.iconst 0, 1) := by decide +kernel
theorem dX10_tray_9 : decode cX10_tray 9 = .ok (.iconst 3, 1) := by decide +kernel
theorem dX10_tray_10 : decode cX10_tray 10 = .ok (.invokestatic 128, 3) := by decide +kernel
theorem dX10_tray_13 : decode cX10_tray 13 = .ok (.ifCond .eq 13, 3) := by decide +kernel
theorem dX10_tray_16 : decode cX10_tray 16 = .ok (.iload_n 3, 1) := by decide +kernel
theorem dX10_tray_17 : decode cX10_tray 17 = .ok (.iconst 0, 1) := by decide +kernel
theorem dX10_tray_18 : decode cX10_tray 18 = .ok (.bipush 60, 2) := by decide +kernel
theorem dX10_tray_20 : decode cX10_tray 20 = .ok (.invokestatic 128, 3) := by decide +kernel
theorem dX10_tray_23 : decode cX10_tray 23 = .ok (.ifCond .ne 9, 3) := by decide +kernel
theorem dX10_tray_26 : decode cX10_tray 26 = .ok (.aload_n 0, 1) := by decide +kernel
theorem dX10_tray_27 : decode cX10_tray 27 = .ok (.iconst 1, 1) := by decide +kernel
theorem dX10_tray_28 : decode cX10_tray 28 = .ok (.invokevirtual 132, 3) := by decide +kernel
theorem dX10_tray_31 : decode cX10_tray 31 = .ok (.ireturn, 1) := by decide +kernel
theorem dX10_tray_32 : decode cX10_tray 32 = .ok (.aload_n 0, 1) := by decide +kernel
theorem dX10_tray_33 : decode cX10_tray 33 = .ok (.getfield 11, 3) := by decide +kernel
theorem dX10_tray_36 : decode cX10_tray 36 = .ok (.iload_n 1, 1) := by decide +kernel
theorem dX10_tray_37 : decode cX10_tray 37 = .ok (.aaload, 1) := by decide +kernel
theorem dX10_tray_38 : decode cX10_tray 38 = .ok (.iload_n 2, 1) := by decide +kernel
theorem dX10_tray_39 : decode cX10_tray 39 = .ok (.iload_n 3, 1) := by decide +kernel
theorem dX10_tray_40 : decode cX10_tray 40 = .ok (.invokevirtual 135, 3) := by decide +kernel
theorem dX10_tray_43 : decode cX10_tray 43 = .ok (.aload_n 0, 1) := by decide +kernel
theorem dX10_tray_44 : decode cX10_tray 44 = .ok (.invokevirtual 139, 3) := by decide +kernel
theorem dX10_tray_47 : decode cX10_tray 47 = .ok (.ireturn, 1) := by decide +kernel
theorem dX10_write_0 : decode cX10_write 0 = .ok (.aload_n 0, 1) := by decide +kernel
theorem dX10_write_1 : decode cX10_write 1 = .ok (.iload_n 1, 1) := by decide +kernel
theorem dX10_write_2 : decode cX10_write 2 = .ok (.iload_n 2, 1) := by decide +kernel
theorem dX10_write_3 : decode cX10_write 3 = .ok (.invokevirtual 143, 3) := by decide +kernel
theorem dX10_write_6 : decode cX10_write 6 = .ok (.istore 5, 2) := by decide +kernel
theorem dX10_write_8 : decode cX10_write 8 = .ok (.iload 5, 2) := by decide +kernel
theorem dX10_write_10 : decode cX10_write 10 = .ok (.ifCond .eq 10, 3) := by decide +kernel
theorem dX10_write_13 : decode cX10_write 13 = .ok (.aload_n 0, 1) := by decide +kernel
theorem dX10_write_14 : decode cX10_write 14 = .ok (.iload 5, 2) := by decide +kernel
theorem dX10_write_16 : decode cX10_write 16 = .ok (.invokevirtual 132, 3) := by decide +kernel
theorem dX10_write_19 : decode cX10_write 19 = .ok (.ireturn, 1) := by decide +kernel
theorem dX10_write_20 : decode cX10_write 20 = .ok (.aload_n 0, 1) := by decide +kernel
theorem dX10_write_21 : decode cX10_write 21 = .ok (.getfield 11, 3) := by decide +kernel
theorem dX10_write_24 : decode cX10_write 24 = .ok (.iload_n 1, 1) := by decide +kernel
theorem dX10_write_25 : decode cX10_write 25 = .ok (.aaload, 1) := by decide +kernel
theorem dX10_write_26 : decode cX10_write 26 = .ok (.iload_n 2, 1) := by decide +kernel
theorem dX10_write_27 : decode cX10_write 27 = .ok (.lload_n 3, 1) := by decide +kernel
theorem dX10_write_28 : decode cX10_write 28 = .ok (.invokevirtual 147, 3) := by decide +kernel
theorem dX10_write_31 : decode cX10_write 31 = .ok (.aload_n 0, 1) := by decide +kernel
theorem dX10_write_32 : decode cX10_write 32 = .ok (.invokevirtual 139, 3) := by decide +kernel
theorem dX10_write_35 : decode cX10_write 35 = .ok (.ireturn, 1) := by decide +kernel
theorem dX10_read_0 : decode cX10_read 0 = .ok (.aload_n 0, 1) := by decide +kernel
theorem dX10_read_1 : decode cX10_read 1 = .ok (.iload_n 1, 1) := by decide +kernel
theorem dX10_read_2 : decode cX10_read 2 = .ok (.iload_n 2, 1) := by decide +kernel
theorem dX10_read_3 : decode cX10_read 3 = .ok (.invokevirtual 143, 3) := by decide +kernel
theorem dX10_read_6 : decode cX10_read 6 = .ok (.istore_n 3, 1) := by decide +kernel
theorem dX10_read_7 : decode cX10_read 7 = .ok (.iload_n 3, 1) := by decide +kernel
theorem dX10_read_8 : decode cX10_read 8 = .ok (.ifCond .eq 10, 3) := by decide +kernel
theorem dX10_read_11 : decode cX10_read 11 = .ok (.aload_n 0, 1) := by decide +kernel
theorem dX10_read_12 : decode cX10_read 12 = .ok (.iload_n 3, 1) := by decide +kernel
theorem dX10_read_13 : decode cX10_read 13 = .ok (.invokevirtual 151, 3) := by decide +kernel
theorem dX10_read_16 : decode cX10_read 16 = .ok (.i2l, 1) := by decide +kernel
theorem dX10_read_17 : decode cX10_read 17 = .ok (.lreturn, 1) := by decide +kernel
theorem dX10_read_18 : decode cX10_read 18 = .ok (.aload_n 0, 1) := by decide +kernel
theorem dX10_read_19 : decode cX10_read 19 = .ok (.iconst 0, 1) := by decide +kernel
theorem dX10_read_20 : decode cX10_read 20 = .ok (.putfield 114, 3) := by decide +kernel
theorem dX10_read_23 : decode cX10_read 23 = .ok (.aload_n 0, 1) := by decide +kernel
theorem dX10_read_24 : decode cX10_read 24 = .ok (.getfield 11, 3) := by decide +kernel
theorem dX10_read_27 : decode cX10_read 27 = .ok (.iload_n 1, 1) := by decide +kernel
theorem dX10_read_28 : decode cX10_read 28 = .ok (.aaload, 1) := by decide +kernel
theorem dX10_read_29 : decode cX10_read 29 = .ok (.getfield 155, 3) := by decide +kernel
theorem dX10_read_32 : decode cX10_read 32 = .ok (.iload_n 2, 1) := by decide +kernel
theorem dX10_read_33 : decode cX10_read 33 = .ok (.laload, 1) := by decide +kernel
theorem dX10_read_34 : decode cX10_read 34 = .ok (.lreturn, 1) := by decide +kernel
theorem dX10_pour_0 : decode cX10_pour 0 = .ok (.iload_n 1, 1) := by decide +kernel
theorem dX10_pour_1 : decode cX10_pour 1 = .ok (.invokestatic 124, 3) := by decide +kernel
theorem dX10_pour_4 : decode cX10_pour 4 = .ok (.ifCond .eq 24, 3) := by decide +kernel
theorem dX10_pour_7 : decode cX10_pour 7 = .ok (.iload_n 3, 1) := by decide +kernel
theorem dX10_pour_8 : decode cX10_pour 8 = .ok (.invokestatic 124, 3) := by decide +kernel
theorem dX10_pour_11 : decode cX10_pour 11 = .ok (.ifCond .eq 17, 3) := by decide +kernel
theorem dX10_pour_14 : decode cX10_pour 14 = .ok (.iload_n 2, 1) := by decide +kernel
theorem dX10_pour_15 : decode cX10_pour 15 = .ok (.ifCond .lt 13, 3) := by decide +kernel
theorem dX10_pour_18 : decode cX10_pour 18 = .ok (.iload 4, 2) := by decide +kernel
theorem dX10_pour_20 : decode cX10_pour 20 = .ok (.ifCond .lt 8, 3) := by decide +kernel
theorem dX10_pour_23 : decode cX10_pour 23 = .ok (.iload 5, 2) := by decide +kernel
theorem dX10_pour_25 : decode cX10_pour 25 = .ok (.ifCond .ge 9, 3) := by decide +kernel
theorem dX10_pour_28 : decode cX10_pour 28 = .ok (.aload_n 0, 1) := by decide +kernel
theorem dX10_pour_29 : decode cX10_pour 29 = .ok (.iconst 1, 1) := by decide +kernel
theorem dX10_pour_30 : decode cX10_pour 30 = .ok (.invokevirtual 132, 3) := by decide +kernel
theorem dX10_pour_33 : decode cX10_pour 33 = .ok (.ireturn, 1) := by decide +kernel
theorem dX10_pour_34 : decode cX10_pour 34 = .ok (.aload_n 0, 1) := by decide +kernel
theorem dX10_pour_35 : decode cX10_pour 35 = .ok (.getfield 11, 3) := by decide +kernel
theorem dX10_pour_38 : decode cX10_pour 38 = .ok (.iload_n 1, 1) := by decide +kernel
theorem dX10_pour_39 : decode cX10_pour 39 = .ok (.aaload, 1) := by decide +kernel
theorem dX10_pour_40 : decode cX10_pour 40 = .ok (.astore 6, 2) := by decide +kernel
theorem dX10_pour_42 : decode cX10_pour 42 = .ok (.aload_n 0, 1) := by decide +kernel
theorem dX10_pour_43 : decode cX10_pour 43 = .ok (.getfield 11, 3) := by decide +kernel
theorem dX10_pour_46 : decode cX10_pour 46 = .ok (.iload_n 3, 1) := by decide +kernel
theorem dX10_pour_47 : decode cX10_pour 47 = .ok (.aaload, 1) := by decide +kernel
theorem dX10_pour_48 : decode cX10_pour 48 = .ok (.astore 7, 2) := by decide +kernel
theorem dX10_pour_50 : decode cX10_pour 50 = .ok (.aload 6, 2) := by decide +kernel
theorem dX10_pour_52 : decode cX10_pour 52 = .ok (.getfield 159, 3) := by decide +kernel
theorem dX10_pour_55 : decode cX10_pour 55 = .ok (.ifCond .eq 11, 3) := by decide +kernel
theorem dX10_pour_58 : decode cX10_pour 58 = .ok (.aload 7, 2) := by decide +kernel
theorem dX10_pour_60 : decode cX10_pour 60 = .ok (.getfield 159, 3) := by decide +kernel
theorem dX10_pour_63 : decode cX10_pour 63 = .ok (.ifCond .ne 9, 3) := by decide +kernel
theorem dX10_pour_66 : decode cX10_pour 66 = .ok (.aload_n 0, 1) := by decide +kernel
theorem dX10_pour_67 : decode cX10_pour 67 = .ok (.iconst 2, 1) := by decide +kernel
theorem dX10_pour_68 : decode cX10_pour 68 = .ok (.invokevirtual 132, 3) := by decide +kernel
theorem dX10_pour_71 : decode cX10_pour 71 = .ok (.ireturn, 1) := by decide +kernel
theorem dX10_pour_72 : decode cX10_pour 72 = .ok (.aload 6, 2) := by decide +kernel
theorem dX10_pour_74 : decode cX10_pour 74 = .ok (.getfield 163, 3) := by decide +kernel
theorem dX10_pour_77 : decode cX10_pour 77 = .ok (.aload 7, 2) := by decide +kernel
theorem dX10_pour_79 : decode cX10_pour 79 = .ok (.getfield 163, 3) := by decide +kernel
theorem dX10_pour_82 : decode cX10_pour 82 = .ok (.if_icmp .eq 10, 3) := by decide +kernel
theorem dX10_pour_85 : decode cX10_pour 85 = .ok (.aload_n 0, 1) := by decide +kernel
theorem dX10_pour_86 : decode cX10_pour 86 = .ok (.bipush 8, 2) := by decide +kernel
theorem dX10_pour_88 : decode cX10_pour 88 = .ok (.invokevirtual 132, 3) := by decide +kernel
theorem dX10_pour_91 : decode cX10_pour 91 = .ok (.ireturn, 1) := by decide +kernel
theorem dX10_pour_92 : decode cX10_pour 92 = .ok (.aload 6, 2) := by decide +kernel
theorem dX10_pour_94 : decode cX10_pour 94 = .ok (.iload_n 2, 1) := by decide +kernel
theorem dX10_pour_95 : decode cX10_pour 95 = .ok (.iload 5, 2) := by decide +kernel
theorem dX10_pour_97 : decode cX10_pour 97 = .ok (.invokevirtual 166, 3) := by decide +kernel
theorem dX10_pour_100 : decode cX10_pour 100 = .ok (.ifCond .eq 15, 3) := by decide +kernel
theorem dX10_pour_103 : decode cX10_pour 103 = .ok (.aload 7, 2) := by decide +kernel
theorem dX10_pour_105 : decode cX10_pour 105 = .ok (.iload 4, 2) := by decide +kernel
theorem dX10_pour_107 : decode cX10_pour 107 = .ok (.iload 5, 2) := by decide +kernel
theorem dX10_pour_109 : decode cX10_pour 109 = .ok (.invokevirtual 166, 3) := by decide +kernel
theorem dX10_pour_112 : decode cX10_pour 112 = .ok (.ifCond .ne 9, 3) := by decide +kernel
theorem dX10_pour_115 : decode cX10_pour 115 = .ok (.aload_n 0, 1) := by decide +kernel
theorem dX10_pour_116 : decode cX10_pour 116 = .ok (.iconst 3, 1) := by decide +kernel
theorem dX10_pour_117 : decode cX10_pour 117 = .ok (.invokevirtual 132, 3) := by decide +kernel
theorem dX10_pour_120 : decode cX10_pour 120 = .ok (.ireturn, 1) := by decide +kernel
theorem dX10_pour_121 : decode cX10_pour 121 = .ok (.aload 6, 2) := by decide +kernel
theorem dX10_pour_123 : decode cX10_pour 123 = .ok (.getfield 155, 3) := by decide +kernel
theorem dX10_pour_126 : decode cX10_pour 126 = .ok (.iload_n 2, 1) := by decide +kernel
theorem dX10_pour_127 : decode cX10_pour 127 = .ok (.aload 7, 2) := by decide +kernel
theorem dX10_pour_129 : decode cX10_pour 129 = .ok (.getfield 155, 3) := by decide +kernel
theorem dX10_pour_132 : decode cX10_pour 132 = .ok (.iload 4, 2) := by decide +kernel
theorem dX10_pour_134 : decode cX10_pour 134 = .ok (.iload 5, 2) := by decide +kernel
theorem dX10_pour_136 : decode cX10_pour 136 = .ok (.invokestatic 170, 3) := by decide +kernel
theorem dX10_pour_139 : decode cX10_pour 139 = .ok (.aload_n 0, 1) := by decide +kernel
theorem dX10_pour_140 : decode cX10_pour 140 = .ok (.invokevirtual 139, 3) := by decide +kernel
theorem dX10_pour_143 : decode cX10_pour 143 = .ok (.ireturn, 1) := by decide +kernel
theorem dX10_feed_0 : decode cX10_feed 0 = .ok (.aload_n 0, 1) := by decide +kernel
theorem dX10_feed_1 : decode cX10_feed 1 = .ok (.getfield 176, 3) := by decide +kernel
theorem dX10_feed_4 : decode cX10_feed 4 = .ok (.bipush 20, 2) := by decide +kernel
theorem dX10_feed_6 : decode cX10_feed 6 = .ok (.iadd, 1) := by decide +kernel
theorem dX10_feed_7 : decode cX10_feed 7 = .ok (.sipush 900, 3) := by decide +kernel
theorem dX10_feed_10 : decode cX10_feed 10 = .ok (.if_icmp .le 5, 3) := by decide +kernel
theorem dX10_feed_13 : decode cX10_feed 13 = .ok (.iconst (-1), 1) := by decide +kernel
theorem dX10_feed_14 : decode cX10_feed 14 = .ok (.ireturn, 1) := by decide +kernel
theorem dX10_feed_15 : decode cX10_feed 15 = .ok (.aload_n 0, 1) := by decide +kernel
theorem dX10_feed_16 : decode cX10_feed 16 = .ok (.iload_n 1, 1) := by decide +kernel
theorem dX10_feed_17 : decode cX10_feed 17 = .ok (.invokevirtual 179, 3) := by decide +kernel
theorem dX10_feed_20 : decode cX10_feed 20 = .ok (.aload_n 0, 1) := by decide +kernel
theorem dX10_feed_21 : decode cX10_feed 21 = .ok (.iload_n 2, 1) := by decide +kernel
theorem dX10_feed_22 : decode cX10_feed 22 = .ok (.invokevirtual 179, 3) := by decide +kernel
theorem dX10_feed_25 : decode cX10_feed 25 = .ok (.aload_n 0, 1) := by decide +kernel
theorem dX10_feed_26 : decode cX10_feed 26 = .ok (.iload_n 3, 1) := by decide +kernel
theorem dX10_feed_27 : decode cX10_feed 27 = .ok (.invokevirtual 179, 3) := by decide +kernel
theorem dX10_feed_30 : decode cX10_feed 30 = .ok (.aload_n 0, 1) := by decide +kernel
theorem dX10_feed_31 : decode cX10_feed 31 = .ok (.iload 4, 2) := by decide +kernel
theorem dX10_feed_33 : decode cX10_feed 33 = .ok (.invokevirtual 179, 3) := by decide +kernel
theorem dX10_feed_36 : decode cX10_feed 36 = .ok (.aload_n 0, 1) := by decide +kernel
theorem dX10_feed_37 : decode cX10_feed 37 = .ok (.iload 5, 2) := by decide +kernel
theorem dX10_feed_39 : decode cX10_feed 39 = .ok (.invokevirtual 179, 3) := by decide +kernel
theorem dX10_feed_42 : decode cX10_feed 42 = .ok (.aload_n 0, 1) := by decide +kernel
theorem dX10_feed_43 : decode cX10_feed 43 = .ok (.getfield 176, 3) := by decide +kernel
theorem dX10_feed_46 : decode cX10_feed 46 = .ok (.ireturn, 1) := by decide +kernel
theorem dX10_court_0 : decode cX10_court 0 = .ok (.iload_n 1, 1) := by decide +kernel
theorem dX10_court_1 : decode cX10_court 1 = .ok (.iconst 0, 1) := by decide +kernel
theorem dX10_court_2 : decode cX10_court 2 = .ok (.aload_n 0, 1) := by decide +kernel
theorem dX10_court_3 : decode cX10_court 3 = .ok (.getfield 176, 3) := by decide +kernel
theorem dX10_court_6 : decode cX10_court 6 = .ok (.invokestatic 128, 3) := by decide +kernel
theorem dX10_court_9 : decode cX10_court 9 = .ok (.ifCond .ne 9, 3) := by decide +kernel
theorem dX10_court_12 : decode cX10_court 12 = .ok (.aload_n 0, 1) := by decide +kernel
theorem dX10_court_13 : decode cX10_court 13 = .ok (.iconst 1, 1) := by decide +kernel
theorem dX10_court_14 : decode cX10_court 14 = .ok (.invokevirtual 151, 3) := by decide +kernel
theorem dX10_court_17 : decode cX10_court 17 = .ok (.ireturn, 1) := by decide +kernel
theorem dX10_court_18 : decode cX10_court 18 = .ok (.aload_n 0, 1) := by decide +kernel
theorem dX10_court_19 : decode cX10_court 19 = .ok (.getfield 61, 3) := by decide +kernel
theorem dX10_court_22 : decode cX10_court 22 = .ok (.iload_n 1, 1) := by decide +kernel
theorem dX10_court_23 : decode cX10_court 23 = .ok (.invokevirtual 183, 3) := by decide +kernel
theorem dX10_court_26 : decode cX10_court 26 = .ok (.istore_n 2, 1) := by decide +kernel
theorem dX10_court_27 : decode cX10_court 27 = .ok (.aload_n 0, 1) := by decide +kernel
theorem dX10_court_28 : decode cX10_court 28 = .ok (.iload_n 2, 1) := by decide +kernel
theorem dX10_court_29 : decode cX10_court 29 = .ok (.invokevirtual 186, 3) := by decide +kernel
theorem dX10_court_32 : decode cX10_court 32 = .ok (.iload_n 2, 1) := by decide +kernel
theorem dX10_court_33 : decode cX10_court 33 = .ok (.ifCond .ne 10, 3) := by decide +kernel
theorem dX10_court_36 : decode cX10_court 36 = .ok (.aload_n 0, 1) := by decide +kernel
theorem dX10_court_37 : decode cX10_court 37 = .ok (.bipush 9, 2) := by decide +kernel
theorem dX10_court_39 : decode cX10_court 39 = .ok (.invokevirtual 151, 3) := by decide +kernel
theorem dX10_court_42 : decode cX10_court 42 = .ok (.ireturn, 1) := by decide +kernel
theorem dX10_court_43 : decode cX10_court 43 = .ok (.aload_n 0, 1) := by decide +kernel
theorem dX10_court_44 : decode cX10_court 44 = .ok (.getfield 22, 3) := by decide +kernel
theorem dX10_court_47 : decode cX10_court 47 = .ok (.aload_n 0, 1) := by decide +kernel
theorem dX10_court_48 : decode cX10_court 48 = .ok (.getfield 41, 3) := by decide +kernel
theorem dX10_court_51 : decode cX10_court 51 = .ok (.invokevirtual 190, 3) := by decide +kernel
theorem dX10_court_54 : decode cX10_court 54 = .ok (.aload_n 0, 1) := by decide +kernel
theorem dX10_court_55 : decode cX10_court 55 = .ok (.getfield 29, 3) := by decide +kernel
theorem dX10_court_58 : decode cX10_court 58 = .ok (.invokevirtual 193, 3) := by decide +kernel
theorem dX10_court_61 : decode cX10_court 61 = .ok (.aload_n 0, 1) := by decide +kernel
theorem dX10_court_62 : decode cX10_court 62 = .ok (.aload_n 0, 1) := by decide +kernel
theorem dX10_court_63 : decode cX10_court 63 = .ok (.getfield 22, 3) := by decide +kernel
theorem dX10_court_66 : decode cX10_court 66 = .ok (.getfield 196, 3) := by decide +kernel
theorem dX10_court_69 : decode cX10_court 69 = .ok (.invokevirtual 199, 3) := by decide +kernel
theorem dX10_court_72 : decode cX10_court 72 = .ok (.ireturn, 1) := by decide +kernel
theorem dX10_terms_0 : decode cX10_terms 0 = .ok (.iload_n 1, 1) := by decide +kernel
theorem dX10_terms_1 : decode cX10_terms 1 = .ok (.iconst 0, 1) := by decide +kernel
theorem dX10_terms_2 : decode cX10_terms 2 = .ok (.aload_n 0, 1) := by decide +kernel
theorem dX10_terms_3 : decode cX10_terms 3 = .ok (.getfield 176, 3) := by decide +kernel
theorem dX10_terms_6 : decode cX10_terms 6 = .ok (.invokestatic 128, 3) := by decide +kernel
theorem dX10_terms_9 : decode cX10_terms 9 = .ok (.ifCond .eq 10, 3) := by decide +kernel
theorem dX10_terms_12 : decode cX10_terms 12 = .ok (.iload_n 1, 1) := by decide +kernel
theorem dX10_terms_13 : decode cX10_terms 13 = .ok (.sipush 300, 3) := by decide +kernel
theorem dX10_terms_16 : decode cX10_terms 16 = .ok (.if_icmp .le 9, 3) := by decide +kernel
theorem dX10_terms_19 : decode cX10_terms 19 = .ok (.aload_n 0, 1) := by decide +kernel
theorem dX10_terms_20 : decode cX10_terms 20 = .ok (.iconst 1, 1) := by decide +kernel
theorem dX10_terms_21 : decode cX10_terms 21 = .ok (.invokevirtual 151, 3) := by decide +kernel
theorem dX10_terms_24 : decode cX10_terms 24 = .ok (.ireturn, 1) := by decide +kernel
theorem dX10_terms_25 : decode cX10_terms 25 = .ok (.aload_n 0, 1) := by decide +kernel
theorem dX10_terms_26 : decode cX10_terms 26 = .ok (.getfield 70, 3) := by decide +kernel
theorem dX10_terms_29 : decode cX10_terms 29 = .ok (.iload_n 1, 1) := by decide +kernel
theorem dX10_terms_30 : decode cX10_terms 30 = .ok (.invokevirtual 202, 3) := by decide +kernel
theorem dX10_terms_33 : decode cX10_terms 33 = .ok (.istore_n 2, 1) := by decide +kernel
theorem dX10_terms_34 : decode cX10_terms 34 = .ok (.aload_n 0, 1) := by decide +kernel
theorem dX10_terms_35 : decode cX10_terms 35 = .ok (.iload_n 2, 1) := by decide +kernel
theorem dX10_terms_36 : decode cX10_terms 36 = .ok (.invokevirtual 186, 3) := by decide +kernel
theorem dX10_terms_39 : decode cX10_terms 39 = .ok (.iload_n 2, 1) := by decide +kernel
theorem dX10_terms_40 : decode cX10_terms 40 = .ok (.ifCond .ne 10, 3) := by decide +kernel
theorem dX10_terms_43 : decode cX10_terms 43 = .ok (.aload_n 0, 1) := by decide +kernel
theorem dX10_terms_44 : decode cX10_terms 44 = .ok (.bipush 9, 2) := by decide +kernel
theorem dX10_terms_46 : decode cX10_terms 46 = .ok (.invokevirtual 151, 3) := by decide +kernel
theorem dX10_terms_49 : decode cX10_terms 49 = .ok (.ireturn, 1) := by decide +kernel
theorem dX10_terms_50 : decode cX10_terms 50 = .ok (.aload_n 0, 1) := by decide +kernel
theorem dX10_terms_51 : decode cX10_terms 51 = .ok (.getfield 29, 3) := by decide +kernel
theorem dX10_terms_54 : decode cX10_terms 54 = .ok (.aload_n 0, 1) := by decide +kernel
theorem dX10_terms_55 : decode cX10_terms 55 = .ok (.getfield 44, 3) := by decide +kernel
theorem dX10_terms_58 : decode cX10_terms 58 = .ok (.invokevirtual 203, 3) := by decide +kernel
theorem dX10_terms_61 : decode cX10_terms 61 = .ok (.aload_n 0, 1) := by decide +kernel
theorem dX10_terms_62 : decode cX10_terms 62 = .ok (.aload_n 0, 1) := by decide +kernel
theorem dX10_terms_63 : decode cX10_terms 63 = .ok (.getfield 29, 3) := by decide +kernel
theorem dX10_terms_66 : decode cX10_terms 66 = .ok (.getfield 206, 3) := by decide +kernel
theorem dX10_terms_69 : decode cX10_terms 69 = .ok (.invokevirtual 199, 3) := by decide +kernel
theorem dX10_terms_72 : decode cX10_terms 72 = .ok (.ireturn, 1) := by decide +kernel
theorem dX10_fault_0 : decode cX10_fault 0 = .ok (.iload_n 1, 1) := by decide +kernel
theorem dX10_fault_1 : decode cX10_fault 1 = .ok (.ifCond .ne 8, 3) := by decide +kernel
theorem dX10_fault_4 : decode cX10_fault 4 = .ok (.aload_n 0, 1) := by decide +kernel
theorem dX10_fault_5 : decode cX10_fault 5 = .ok (.getfield 106, 3) := by decide +kernel
theorem dX10_fault_8 : decode cX10_fault 8 = .ok (.ireturn, 1) := by decide +kernel
theorem dX10_fault_9 : decode cX10_fault 9 = .ok (.iload_n 1, 1) := by decide +kernel
theorem dX10_fault_10 : decode cX10_fault 10 = .ok (.iconst 1, 1) := by decide +kernel
theorem dX10_fault_11 : decode cX10_fault 11 = .ok (.if_icmp .ne 10, 3) := by decide +kernel
theorem dX10_fault_14 : decode cX10_fault 14 = .ok (.aload_n 0, 1) := by decide +kernel
theorem dX10_fault_15 : decode cX10_fault 15 = .ok (.getfield 110, 3) := by decide +kernel
theorem dX10_fault_18 : decode cX10_fault 18 = .ok (.goto 4, 3) := by decide +kernel
theorem dX10_fault_21 : decode cX10_fault 21 = .ok (.iconst (-1), 1) := by decide +kernel
theorem dX10_fault_22 : decode cX10_fault 22 = .ok (.ireturn, 1) := by decide +kernel
theorem dX10_told_0 : decode cX10_told 0 = .ok (.iload_n 1, 1) := by decide +kernel
theorem dX10_told_1 : decode cX10_told 1 = .ok (.tableswitch 191 0 10 #[59, 71, 83, 95, 107, 119, 131, 143, 155, 167, 179], 59) := by decide +kernel
theorem dX10_told_60 : decode cX10_told 60 = .ok (.aload_n 0, 1) := by decide +kernel
theorem dX10_told_61 : decode cX10_told 61 = .ok (.aload_n 0, 1) := by decide +kernel
theorem dX10_told_62 : decode cX10_told 62 = .ok (.getfield 22, 3) := by decide +kernel
theorem dX10_told_65 : decode cX10_told 65 = .ok (.getfield 209, 3) := by decide +kernel
theorem dX10_told_68 : decode cX10_told 68 = .ok (.invokevirtual 199, 3) := by decide +kernel
theorem dX10_told_71 : decode cX10_told 71 = .ok (.ireturn, 1) := by decide +kernel
theorem dX10_told_72 : decode cX10_told 72 = .ok (.aload_n 0, 1) := by decide +kernel
theorem dX10_told_73 : decode cX10_told 73 = .ok (.aload_n 0, 1) := by decide +kernel
theorem dX10_told_74 : decode cX10_told 74 = .ok (.getfield 22, 3) := by decide +kernel
theorem dX10_told_77 : decode cX10_told 77 = .ok (.getfield 212, 3) := by decide +kernel
theorem dX10_told_80 : decode cX10_told 80 = .ok (.invokevirtual 199, 3) := by decide +kernel
theorem dX10_told_83 : decode cX10_told 83 = .ok (.ireturn, 1) := by decide +kernel
theorem dX10_told_84 : decode cX10_told 84 = .ok (.aload_n 0, 1) := by decide +kernel
theorem dX10_told_85 : decode cX10_told 85 = .ok (.aload_n 0, 1) := by decide +kernel
theorem dX10_told_86 : decode cX10_told 86 = .ok (.getfield 22, 3) := by decide +kernel
theorem dX10_told_89 : decode cX10_told 89 = .ok (.getfield 196, 3) := by decide +kernel
theorem dX10_told_92 : decode cX10_told 92 = .ok (.invokevirtual 199, 3) := by decide +kernel
theorem dX10_told_95 : decode cX10_told 95 = .ok (.ireturn, 1) := by decide +kernel
theorem dX10_told_96 : decode cX10_told 96 = .ok (.aload_n 0, 1) := by decide +kernel
theorem dX10_told_97 : decode cX10_told 97 = .ok (.aload_n 0, 1) := by decide +kernel
theorem dX10_told_98 : decode cX10_told 98 = .ok (.getfield 22, 3) := by decide +kernel
theorem dX10_told_101 : decode cX10_told 101 = .ok (.getfield 215, 3) := by decide +kernel
theorem dX10_told_104 : decode cX10_told 104 = .ok (.invokevirtual 199, 3) := by decide +kernel
theorem dX10_told_107 : decode cX10_told 107 = .ok (.ireturn, 1) := by decide +kernel
theorem dX10_told_108 : decode cX10_told 108 = .ok (.aload_n 0, 1) := by decide +kernel
theorem dX10_told_109 : decode cX10_told 109 = .ok (.aload_n 0, 1) := by decide +kernel
theorem dX10_told_110 : decode cX10_told 110 = .ok (.getfield 22, 3) := by decide +kernel
theorem dX10_told_113 : decode cX10_told 113 = .ok (.getfield 218, 3) := by decide +kernel
theorem dX10_told_116 : decode cX10_told 116 = .ok (.invokevirtual 199, 3) := by decide +kernel
theorem dX10_told_119 : decode cX10_told 119 = .ok (.ireturn, 1) := by decide +kernel
theorem dX10_told_120 : decode cX10_told 120 = .ok (.aload_n 0, 1) := by decide +kernel
theorem dX10_told_121 : decode cX10_told 121 = .ok (.aload_n 0, 1) := by decide +kernel
theorem dX10_told_122 : decode cX10_told 122 = .ok (.getfield 22, 3) := by decide +kernel
theorem dX10_told_125 : decode cX10_told 125 = .ok (.getfield 221, 3) := by decide +kernel
theorem dX10_told_128 : decode cX10_told 128 = .ok (.invokevirtual 199, 3) := by decide +kernel
theorem dX10_told_131 : decode cX10_told 131 = .ok (.ireturn, 1) := by decide +kernel
theorem dX10_told_132 : decode cX10_told 132 = .ok (.aload_n 0, 1) := by decide +kernel
theorem dX10_told_133 : decode cX10_told 133 = .ok (.aload_n 0, 1) := by decide +kernel
theorem dX10_told_134 : decode cX10_told 134 = .ok (.getfield 22, 3) := by decide +kernel
theorem dX10_told_137 : decode cX10_told 137 = .ok (.getfield 224, 3) := by decide +kernel
theorem dX10_told_140 : decode cX10_told 140 = .ok (.invokevirtual 199, 3) := by decide +kernel
theorem dX10_told_143 : decode cX10_told 143 = .ok (.ireturn, 1) := by decide +kernel
theorem dX10_told_144 : decode cX10_told 144 = .ok (.aload_n 0, 1) := by decide +kernel
theorem dX10_told_145 : decode cX10_told 145 = .ok (.aload_n 0, 1) := by decide +kernel
theorem dX10_told_146 : decode cX10_told 146 = .ok (.getfield 22, 3) := by decide +kernel
theorem dX10_told_149 : decode cX10_told 149 = .ok (.invokevirtual 227, 3) := by decide +kernel
theorem dX10_told_152 : decode cX10_told 152 = .ok (.invokevirtual 199, 3) := by decide +kernel
theorem dX10_told_155 : decode cX10_told 155 = .ok (.ireturn, 1) := by decide +kernel
theorem dX10_told_156 : decode cX10_told 156 = .ok (.aload_n 0, 1) := by decide +kernel
theorem dX10_told_157 : decode cX10_told 157 = .ok (.aload_n 0, 1) := by decide +kernel
theorem dX10_told_158 : decode cX10_told 158 = .ok (.getfield 22, 3) := by decide +kernel
theorem dX10_told_161 : decode cX10_told 161 = .ok (.invokevirtual 231, 3) := by decide +kernel
theorem dX10_told_164 : decode cX10_told 164 = .ok (.invokevirtual 199, 3) := by decide +kernel
theorem dX10_told_167 : decode cX10_told 167 = .ok (.ireturn, 1) := by decide +kernel
theorem dX10_told_168 : decode cX10_told 168 = .ok (.aload_n 0, 1) := by decide +kernel
theorem dX10_told_169 : decode cX10_told 169 = .ok (.aload_n 0, 1) := by decide +kernel
theorem dX10_told_170 : decode cX10_told 170 = .ok (.getfield 22, 3) := by decide +kernel
theorem dX10_told_173 : decode cX10_told 173 = .ok (.invokevirtual 234, 3) := by decide +kernel
theorem dX10_told_176 : decode cX10_told 176 = .ok (.invokevirtual 199, 3) := by decide +kernel
theorem dX10_told_179 : decode cX10_told 179 = .ok (.ireturn, 1) := by decide +kernel
theorem dX10_told_180 : decode cX10_told 180 = .ok (.aload_n 0, 1) := by decide +kernel
theorem dX10_told_181 : decode cX10_told 181 = .ok (.aload_n 0, 1) := by decide +kernel
theorem dX10_told_182 : decode cX10_told 182 = .ok (.getfield 22, 3) := by decide +kernel
theorem dX10_told_185 : decode cX10_told 185 = .ok (.invokevirtual 237, 3) := by decide +kernel
theorem dX10_told_188 : decode cX10_told 188 = .ok (.invokevirtual 199, 3) := by decide +kernel
theorem dX10_told_191 : decode cX10_told 191 = .ok (.ireturn, 1) := by decide +kernel
theorem dX10_told_192 : decode cX10_told 192 = .ok (.aload_n 0, 1) := by decide +kernel
theorem dX10_told_193 : decode cX10_told 193 = .ok (.iconst 1, 1) := by decide +kernel
theorem dX10_told_194 : decode cX10_told 194 = .ok (.invokevirtual 151, 3) := by decide +kernel
theorem dX10_told_197 : decode cX10_told 197 = .ok (.ireturn, 1) := by decide +kernel
theorem dX10_bed_0 : decode cX10_bed 0 = .ok (.aload_n 0, 1) := by decide +kernel
theorem dX10_bed_1 : decode cX10_bed 1 = .ok (.getfield 22, 3) := by decide +kernel
theorem dX10_bed_4 : decode cX10_bed 4 = .ok (.iload_n 1, 1) := by decide +kernel
theorem dX10_bed_5 : decode cX10_bed 5 = .ok (.invokevirtual 240, 3) := by decide +kernel
theorem dX10_bed_8 : decode cX10_bed 8 = .ok (.ifCond .ne 9, 3) := by decide +kernel
theorem dX10_bed_11 : decode cX10_bed 11 = .ok (.aload_n 0, 1) := by decide +kernel
theorem dX10_bed_12 : decode cX10_bed 12 = .ok (.iconst 1, 1) := by decide +kernel
theorem dX10_bed_13 : decode cX10_bed 13 = .ok (.invokevirtual 151, 3) := by decide +kernel
theorem dX10_bed_16 : decode cX10_bed 16 = .ok (.ireturn, 1) := by decide +kernel
theorem dX10_bed_17 : decode cX10_bed 17 = .ok (.iload_n 2, 1) := by decide +kernel
theorem dX10_bed_18 : decode cX10_bed 18 = .ok (.lookupswitch 54 #[(0, 26), (1, 40)], 26) := by decide +kernel
theorem dX10_bed_44 : decode cX10_bed 44 = .ok (.aload_n 0, 1) := by decide +kernel
theorem dX10_bed_45 : decode cX10_bed 45 = .ok (.aload_n 0, 1) := by decide +kernel
theorem dX10_bed_46 : decode cX10_bed 46 = .ok (.getfield 22, 3) := by decide +kernel
theorem dX10_bed_49 : decode cX10_bed 49 = .ok (.getfield 243, 3) := by decide +kernel
theorem dX10_bed_52 : decode cX10_bed 52 = .ok (.iload_n 1, 1) := by decide +kernel
theorem dX10_bed_53 : decode cX10_bed 53 = .ok (.iaload, 1) := by decide +kernel
theorem dX10_bed_54 : decode cX10_bed 54 = .ok (.invokevirtual 199, 3) := by decide +kernel
theorem dX10_bed_57 : decode cX10_bed 57 = .ok (.ireturn, 1) := by decide +kernel
theorem dX10_bed_58 : decode cX10_bed 58 = .ok (.aload_n 0, 1) := by decide +kernel
theorem dX10_bed_59 : decode cX10_bed 59 = .ok (.aload_n 0, 1) := by decide +kernel
theorem dX10_bed_60 : decode cX10_bed 60 = .ok (.getfield 22, 3) := by decide +kernel
theorem dX10_bed_63 : decode cX10_bed 63 = .ok (.getfield 247, 3) := by decide +kernel
theorem dX10_bed_66 : decode cX10_bed 66 = .ok (.iload_n 1, 1) := by decide +kernel
theorem dX10_bed_67 : decode cX10_bed 67 = .ok (.iaload, 1) := by decide +kernel
theorem dX10_bed_68 : decode cX10_bed 68 = .ok (.invokevirtual 199, 3) := by decide +kernel
theorem dX10_bed_71 : decode cX10_bed 71 = .ok (.ireturn, 1) := by decide +kernel
theorem dX10_bed_72 : decode cX10_bed 72 = .ok (.aload_n 0, 1) := by decide +kernel
theorem dX10_bed_73 : decode cX10_bed 73 = .ok (.iconst 1, 1) := by decide +kernel
theorem dX10_bed_74 : decode cX10_bed 74 = .ok (.invokevirtual 151, 3) := by decide +kernel
theorem dX10_bed_77 : decode cX10_bed 77 = .ok (.ireturn, 1) := by decide +kernel
theorem dX10_weight_0 : decode cX10_weight 0 = .ok (.aload_n 0, 1) := by decide +kernel
theorem dX10_weight_1 : decode cX10_weight 1 = .ok (.getfield 22, 3) := by decide +kernel
theorem dX10_weight_4 : decode cX10_weight 4 = .ok (.iload_n 1, 1) := by decide +kernel
theorem dX10_weight_5 : decode cX10_weight 5 = .ok (.invokevirtual 250, 3) := by decide +kernel
theorem dX10_weight_8 : decode cX10_weight 8 = .ok (.ifCond .eq 19, 3) := by decide +kernel
theorem dX10_weight_11 : decode cX10_weight 11 = .ok (.aload_n 0, 1) := by decide +kernel
theorem dX10_weight_12 : decode cX10_weight 12 = .ok (.aload_n 0, 1) := by decide +kernel
theorem dX10_weight_13 : decode cX10_weight 13 = .ok (.getfield 22, 3) := by decide +kernel
theorem dX10_weight_16 : decode cX10_weight 16 = .ok (.getfield 253, 3) := by decide +kernel
theorem dX10_weight_19 : decode cX10_weight 19 = .ok (.iload_n 1, 1) := by decide +kernel
theorem dX10_weight_20 : decode cX10_weight 20 = .ok (.iaload, 1) := by decide +kernel
theorem dX10_weight_21 : decode cX10_weight 21 = .ok (.invokevirtual 199, 3) := by decide +kernel
theorem dX10_weight_24 : decode cX10_weight 24 = .ok (.goto 8, 3) := by decide +kernel
theorem dX10_weight_27 : decode cX10_weight 27 = .ok (.aload_n 0, 1) := by decide +kernel
theorem dX10_weight_28 : decode cX10_weight 28 = .ok (.iconst 1, 1) := by decide +kernel
theorem dX10_weight_29 : decode cX10_weight 29 = .ok (.invokevirtual 151, 3) := by decide +kernel
theorem dX10_weight_32 : decode cX10_weight 32 = .ok (.ireturn, 1) := by decide +kernel
theorem dX10_claim_0 : decode cX10_claim 0 = .ok (.aload_n 0, 1) := by decide +kernel
theorem dX10_claim_1 : decode cX10_claim 1 = .ok (.getfield 22, 3) := by decide +kernel
theorem dX10_claim_4 : decode cX10_claim 4 = .ok (.iload_n 1, 1) := by decide +kernel
theorem dX10_claim_5 : decode cX10_claim 5 = .ok (.invokevirtual 256, 3) := by decide +kernel
theorem dX10_claim_8 : decode cX10_claim 8 = .ok (.ifCond .ne 9, 3) := by decide +kernel
theorem dX10_claim_11 : decode cX10_claim 11 = .ok (.aload_n 0, 1) := by decide +kernel
theorem dX10_claim_12 : decode cX10_claim 12 = .ok (.iconst 1, 1) := by decide +kernel
theorem dX10_claim_13 : decode cX10_claim 13 = .ok (.invokevirtual 151, 3) := by decide +kernel
theorem dX10_claim_16 : decode cX10_claim 16 = .ok (.ireturn, 1) := by decide +kernel
theorem dX10_claim_17 : decode cX10_claim 17 = .ok (.iload_n 2, 1) := by decide +kernel
theorem dX10_claim_18 : decode cX10_claim 18 = .ok (.tableswitch 92 0 3 #[30, 44, 58, 72], 30) := by decide +kernel
theorem dX10_claim_48 : decode cX10_claim 48 = .ok (.aload_n 0, 1) := by decide +kernel
theorem dX10_claim_49 : decode cX10_claim 49 = .ok (.aload_n 0, 1) := by decide +kernel
theorem dX10_claim_50 : decode cX10_claim 50 = .ok (.getfield 22, 3) := by decide +kernel
theorem dX10_claim_53 : decode cX10_claim 53 = .ok (.getfield 259, 3) := by decide +kernel
theorem dX10_claim_56 : decode cX10_claim 56 = .ok (.iload_n 1, 1) := by decide +kernel
theorem dX10_claim_57 : decode cX10_claim 57 = .ok (.iaload, 1) := by decide +kernel
theorem dX10_claim_58 : decode cX10_claim 58 = .ok (.invokevirtual 199, 3) := by decide +kernel
theorem dX10_claim_61 : decode cX10_claim 61 = .ok (.ireturn, 1) := by decide +kernel
theorem dX10_claim_62 : decode cX10_claim 62 = .ok (.aload_n 0, 1) := by decide +kernel
theorem dX10_claim_63 : decode cX10_claim 63 = .ok (.aload_n 0, 1) := by decide +kernel
theorem dX10_claim_64 : decode cX10_claim 64 = .ok (.getfield 22, 3) := by decide +kernel
theorem dX10_claim_67 : decode cX10_claim 67 = .ok (.getfield 262, 3) := by decide +kernel
theorem dX10_claim_70 : decode cX10_claim 70 = .ok (.iload_n 1, 1) := by decide +kernel
theorem dX10_claim_71 : decode cX10_claim 71 = .ok (.iaload, 1) := by decide +kernel
theorem dX10_claim_72 : decode cX10_claim 72 = .ok (.invokevirtual 199, 3) := by decide +kernel
theorem dX10_claim_75 : decode cX10_claim 75 = .ok (.ireturn, 1) := by decide +kernel
theorem dX10_claim_76 : decode cX10_claim 76 = .ok (.aload_n 0, 1) := by decide +kernel
theorem dX10_claim_77 : decode cX10_claim 77 = .ok (.aload_n 0, 1) := by decide +kernel
theorem dX10_claim_78 : decode cX10_claim 78 = .ok (.getfield 22, 3) := by decide +kernel
theorem dX10_claim_81 : decode cX10_claim 81 = .ok (.getfield 265, 3) := by decide +kernel
theorem dX10_claim_84 : decode cX10_claim 84 = .ok (.iload_n 1, 1) := by decide +kernel
theorem dX10_claim_85 : decode cX10_claim 85 = .ok (.iaload, 1) := by decide +kernel
theorem dX10_claim_86 : decode cX10_claim 86 = .ok (.invokevirtual 199, 3) := by decide +kernel
theorem dX10_claim_89 : decode cX10_claim 89 = .ok (.ireturn, 1) := by decide +kernel
theorem dX10_claim_90 : decode cX10_claim 90 = .ok (.aload_n 0, 1) := by decide +kernel
theorem dX10_claim_91 : decode cX10_claim 91 = .ok (.aload_n 0, 1) := by decide +kernel
theorem dX10_claim_92 : decode cX10_claim 92 = .ok (.getfield 22, 3) := by decide +kernel
theorem dX10_claim_95 : decode cX10_claim 95 = .ok (.aload_n 0, 1) := by decide +kernel
theorem dX10_claim_96 : decode cX10_claim 96 = .ok (.getfield 22, 3) := by decide +kernel
theorem dX10_claim_99 : decode cX10_claim 99 = .ok (.getfield 224, 3) := by decide +kernel
theorem dX10_claim_102 : decode cX10_claim 102 = .ok (.iload_n 1, 1) := by decide +kernel
theorem dX10_claim_103 : decode cX10_claim 103 = .ok (.invokevirtual 268, 3) := by decide +kernel
theorem dX10_claim_106 : decode cX10_claim 106 = .ok (.invokevirtual 199, 3) := by decide +kernel
theorem dX10_claim_109 : decode cX10_claim 109 = .ok (.ireturn, 1) := by decide +kernel
theorem dX10_claim_110 : decode cX10_claim 110 = .ok (.aload_n 0, 1) := by decide +kernel
theorem dX10_claim_111 : decode cX10_claim 111 = .ok (.iconst 1, 1) := by decide +kernel
theorem dX10_claim_112 : decode cX10_claim 112 = .ok (.invokevirtual 151, 3) := by decide +kernel
theorem dX10_claim_115 : decode cX10_claim 115 = .ok (.ireturn, 1) := by decide +kernel
theorem dX10_scholar_0 : decode cX10_scholar 0 = .ok (.aload_n 0, 1) := by decide +kernel
theorem dX10_scholar_1 : decode cX10_scholar 1 = .ok (.getfield 22, 3) := by decide +kernel
theorem dX10_scholar_4 : decode cX10_scholar 4 = .ok (.iload_n 1, 1) := by decide +kernel
theorem dX10_scholar_5 : decode cX10_scholar 5 = .ok (.invokevirtual 271, 3) := by decide +kernel
theorem dX10_scholar_8 : decode cX10_scholar 8 = .ok (.ifCond .ne 9, 3) := by decide +kernel
theorem dX10_scholar_11 : decode cX10_scholar 11 = .ok (.aload_n 0, 1) := by decide +kernel
theorem dX10_scholar_12 : decode cX10_scholar 12 = .ok (.iconst 1, 1) := by decide +kernel
theorem dX10_scholar_13 : decode cX10_scholar 13 = .ok (.invokevirtual 151, 3) := by decide +kernel
theorem dX10_scholar_16 : decode cX10_scholar 16 = .ok (.ireturn, 1) := by decide +kernel
theorem dX10_scholar_17 : decode cX10_scholar 17 = .ok (.iload_n 2, 1) := by decide +kernel
theorem dX10_scholar_18 : decode cX10_scholar 18 = .ok (.lookupswitch 54 #[(0, 26), (1, 40)], 26) := by decide +kernel
theorem dX10_scholar_44 : decode cX10_scholar 44 = .ok (.aload_n 0, 1) := by decide +kernel
theorem dX10_scholar_45 : decode cX10_scholar 45 = .ok (.aload_n 0, 1) := by decide +kernel
theorem dX10_scholar_46 : decode cX10_scholar 46 = .ok (.getfield 22, 3) := by decide +kernel
theorem dX10_scholar_49 : decode cX10_scholar 49 = .ok (.getfield 274, 3) := by decide +kernel
theorem dX10_scholar_52 : decode cX10_scholar 52 = .ok (.iload_n 1, 1) := by decide +kernel
theorem dX10_scholar_53 : decode cX10_scholar 53 = .ok (.iaload, 1) := by decide +kernel
theorem dX10_scholar_54 : decode cX10_scholar 54 = .ok (.invokevirtual 199, 3) := by decide +kernel
theorem dX10_scholar_57 : decode cX10_scholar 57 = .ok (.ireturn, 1) := by decide +kernel
theorem dX10_scholar_58 : decode cX10_scholar 58 = .ok (.aload_n 0, 1) := by decide +kernel
theorem dX10_scholar_59 : decode cX10_scholar 59 = .ok (.aload_n 0, 1) := by decide +kernel
theorem dX10_scholar_60 : decode cX10_scholar 60 = .ok (.getfield 22, 3) := by decide +kernel
theorem dX10_scholar_63 : decode cX10_scholar 63 = .ok (.getfield 277, 3) := by decide +kernel
theorem dX10_scholar_66 : decode cX10_scholar 66 = .ok (.iload_n 1, 1) := by decide +kernel
theorem dX10_scholar_67 : decode cX10_scholar 67 = .ok (.iaload, 1) := by decide +kernel
theorem dX10_scholar_68 : decode cX10_scholar 68 = .ok (.invokevirtual 199, 3) := by decide +kernel
theorem dX10_scholar_71 : decode cX10_scholar 71 = .ok (.ireturn, 1) := by decide +kernel
theorem dX10_scholar_72 : decode cX10_scholar 72 = .ok (.aload_n 0, 1) := by decide +kernel
theorem dX10_scholar_73 : decode cX10_scholar 73 = .ok (.iconst 1, 1) := by decide +kernel
theorem dX10_scholar_74 : decode cX10_scholar 74 = .ok (.invokevirtual 151, 3) := by decide +kernel
theorem dX10_scholar_77 : decode cX10_scholar 77 = .ok (.ireturn, 1) := by decide +kernel
theorem dX10_make_0 : decode cX10_make 0 = .ok (.aload_n 0, 1) := by decide +kernel
theorem dX10_make_1 : decode cX10_make 1 = .ok (.getfield 22, 3) := by decide +kernel
theorem dX10_make_4 : decode cX10_make 4 = .ok (.iload_n 1, 1) := by decide +kernel
theorem dX10_make_5 : decode cX10_make 5 = .ok (.invokevirtual 256, 3) := by decide +kernel
theorem dX10_make_8 : decode cX10_make 8 = .ok (.ifCond .ne 9, 3) := by decide +kernel
theorem dX10_make_11 : decode cX10_make 11 = .ok (.aload_n 0, 1) := by decide +kernel
theorem dX10_make_12 : decode cX10_make 12 = .ok (.iconst 1, 1) := by decide +kernel
theorem dX10_make_13 : decode cX10_make 13 = .ok (.invokevirtual 151, 3) := by decide +kernel
theorem dX10_make_16 : decode cX10_make 16 = .ok (.ireturn, 1) := by decide +kernel
theorem dX10_make_17 : decode cX10_make 17 = .ok (.aload_n 0, 1) := by decide +kernel
theorem dX10_make_18 : decode cX10_make 18 = .ok (.getfield 22, 3) := by decide +kernel
theorem dX10_make_21 : decode cX10_make 21 = .ok (.iload_n 1, 1) := by decide +kernel
theorem dX10_make_22 : decode cX10_make 22 = .ok (.invokevirtual 280, 3) := by decide +kernel
theorem dX10_make_25 : decode cX10_make 25 = .ok (.ifCond .eq 12, 3) := by decide +kernel
theorem dX10_make_28 : decode cX10_make 28 = .ok (.aload_n 0, 1) := by decide +kernel
theorem dX10_make_29 : decode cX10_make 29 = .ok (.bipush 7, 2) := by decide +kernel
theorem dX10_make_31 : decode cX10_make 31 = .ok (.invokevirtual 151, 3) := by decide +kernel
theorem dX10_make_34 : decode cX10_make 34 = .ok (.goto 15, 3) := by decide +kernel
theorem dX10_make_37 : decode cX10_make 37 = .ok (.aload_n 0, 1) := by decide +kernel
theorem dX10_make_38 : decode cX10_make 38 = .ok (.aload_n 0, 1) := by decide +kernel
theorem dX10_make_39 : decode cX10_make 39 = .ok (.getfield 22, 3) := by decide +kernel
theorem dX10_make_42 : decode cX10_make 42 = .ok (.iload_n 1, 1) := by decide +kernel
theorem dX10_make_43 : decode cX10_make 43 = .ok (.invokevirtual 283, 3) := by decide +kernel
theorem dX10_make_46 : decode cX10_make 46 = .ok (.invokevirtual 199, 3) := by decide +kernel
theorem dX10_make_49 : decode cX10_make 49 = .ok (.ireturn, 1) := by decide +kernel
theorem dX10_recant_0 : decode cX10_recant 0 = .ok (.aload_n 0, 1) := by decide +kernel
theorem dX10_recant_1 : decode cX10_recant 1 = .ok (.getfield 22, 3) := by decide +kernel
theorem dX10_recant_4 : decode cX10_recant 4 = .ok (.iload_n 1, 1) := by decide +kernel
theorem dX10_recant_5 : decode cX10_recant 5 = .ok (.invokevirtual 256, 3) := by decide +kernel
theorem dX10_recant_8 : decode cX10_recant 8 = .ok (.ifCond .ne 9, 3) := by decide +kernel
theorem dX10_recant_11 : decode cX10_recant 11 = .ok (.aload_n 0, 1) := by decide +kernel
theorem dX10_recant_12 : decode cX10_recant 12 = .ok (.iconst 1, 1) := by decide +kernel
theorem dX10_recant_13 : decode cX10_recant 13 = .ok (.invokevirtual 151, 3) := by decide +kernel
theorem dX10_recant_16 : decode cX10_recant 16 = .ok (.ireturn, 1) := by decide +kernel
theorem dX10_recant_17 : decode cX10_recant 17 = .ok (.aload_n 0, 1) := by decide +kernel
theorem dX10_recant_18 : decode cX10_recant 18 = .ok (.getfield 22, 3) := by decide +kernel
theorem dX10_recant_21 : decode cX10_recant 21 = .ok (.iload_n 1, 1) := by decide +kernel
theorem dX10_recant_22 : decode cX10_recant 22 = .ok (.invokevirtual 280, 3) := by decide +kernel
theorem dX10_recant_25 : decode cX10_recant 25 = .ok (.ifCond .ne 10, 3) := by decide +kernel
theorem dX10_recant_28 : decode cX10_recant 28 = .ok (.aload_n 0, 1) := by decide +kernel
theorem dX10_recant_29 : decode cX10_recant 29 = .ok (.bipush 7, 2) := by decide +kernel
theorem dX10_recant_31 : decode cX10_recant 31 = .ok (.invokevirtual 151, 3) := by decide +kernel
theorem dX10_recant_34 : decode cX10_recant 34 = .ok (.ireturn, 1) := by decide +kernel
theorem dX10_recant_35 : decode cX10_recant 35 = .ok (.aload_n 0, 1) := by decide +kernel
theorem dX10_recant_36 : decode cX10_recant 36 = .ok (.getfield 22, 3) := by decide +kernel
theorem dX10_recant_39 : decode cX10_recant 39 = .ok (.dup, 1) := by decide +kernel
theorem dX10_recant_40 : decode cX10_recant 40 = .ok (.getfield 224, 3) := by decide +kernel
theorem dX10_recant_43 : decode cX10_recant 43 = .ok (.iconst 1, 1) := by decide +kernel
theorem dX10_recant_44 : decode cX10_recant 44 = .ok (.iload_n 1, 1) := by decide +kernel
theorem dX10_recant_45 : decode cX10_recant 45 = .ok (.ishl, 1) := by decide +kernel
theorem dX10_recant_46 : decode cX10_recant 46 = .ok (.iconst (-1), 1) := by decide +kernel
theorem dX10_recant_47 : decode cX10_recant 47 = .ok (.ixor, 1) := by decide +kernel
theorem dX10_recant_48 : decode cX10_recant 48 = .ok (.iand, 1) := by decide +kernel
theorem dX10_recant_49 : decode cX10_recant 49 = .ok (.putfield 224, 3) := by decide +kernel
theorem dX10_recant_52 : decode cX10_recant 52 = .ok (.aload_n 0, 1) := by decide +kernel
theorem dX10_recant_53 : decode cX10_recant 53 = .ok (.aload_n 0, 1) := by decide +kernel
theorem dX10_recant_54 : decode cX10_recant 54 = .ok (.getfield 22, 3) := by decide +kernel
theorem dX10_recant_57 : decode cX10_recant 57 = .ok (.getfield 224, 3) := by decide +kernel
theorem dX10_recant_60 : decode cX10_recant 60 = .ok (.invokestatic 286, 3) := by decide +kernel
theorem dX10_recant_63 : decode cX10_recant 63 = .ok (.invokevirtual 199, 3) := by decide +kernel
theorem dX10_recant_66 : decode cX10_recant 66 = .ok (.ireturn, 1) := by decide +kernel
theorem dX10_forget_0 : decode cX10_forget 0 = .ok (.aload_n 0, 1) := by decide +kernel
theorem dX10_forget_1 : decode cX10_forget 1 = .ok (.getfield 22, 3) := by decide +kernel
theorem dX10_forget_4 : decode cX10_forget 4 = .ok (.getfield 224, 3) := by decide +kernel
theorem dX10_forget_7 : decode cX10_forget 7 = .ok (.invokestatic 286, 3) := by decide +kernel
theorem dX10_forget_10 : decode cX10_forget 10 = .ok (.istore_n 1, 1) := by decide +kernel
theorem dX10_forget_11 : decode cX10_forget 11 = .ok (.iload_n 1, 1) := by decide +kernel
theorem dX10_forget_12 : decode cX10_forget 12 = .ok (.ifCond .ne 10, 3) := by decide +kernel
theorem dX10_forget_15 : decode cX10_forget 15 = .ok (.aload_n 0, 1) := by decide +kernel
theorem dX10_forget_16 : decode cX10_forget 16 = .ok (.bipush 7, 2) := by decide +kernel
theorem dX10_forget_18 : decode cX10_forget 18 = .ok (.invokevirtual 151, 3) := by decide +kernel
theorem dX10_forget_21 : decode cX10_forget 21 = .ok (.ireturn, 1) := by decide +kernel
theorem dX10_forget_22 : decode cX10_forget 22 = .ok (.aload_n 0, 1) := by decide +kernel
theorem dX10_forget_23 : decode cX10_forget 23 = .ok (.getfield 22, 3) := by decide +kernel
theorem dX10_forget_26 : decode cX10_forget 26 = .ok (.iconst 0, 1) := by decide +kernel
theorem dX10_forget_27 : decode cX10_forget 27 = .ok (.putfield 224, 3) := by decide +kernel
theorem dX10_forget_30 : decode cX10_forget 30 = .ok (.aload_n 0, 1) := by decide +kernel
theorem dX10_forget_31 : decode cX10_forget 31 = .ok (.iload_n 1, 1) := by decide +kernel
theorem dX10_forget_32 : decode cX10_forget 32 = .ok (.invokevirtual 199, 3) := by decide +kernel
theorem dX10_forget_35 : decode cX10_forget 35 = .ok (.ireturn, 1) := by decide +kernel
theorem dX10_walk_0 : decode cX10_walk 0 = .ok (.aload_n 0, 1) := by decide +kernel
theorem dX10_walk_1 : decode cX10_walk 1 = .ok (.getfield 22, 3) := by decide +kernel
theorem dX10_walk_4 : decode cX10_walk 4 = .ok (.iload_n 1, 1) := by decide +kernel
theorem dX10_walk_5 : decode cX10_walk 5 = .ok (.invokevirtual 271, 3) := by decide +kernel
theorem dX10_walk_8 : decode cX10_walk 8 = .ok (.ifCond .eq 14, 3) := by decide +kernel
theorem dX10_walk_11 : decode cX10_walk 11 = .ok (.aload_n 0, 1) := by decide +kernel
theorem dX10_walk_12 : decode cX10_walk 12 = .ok (.getfield 22, 3) := by decide +kernel
theorem dX10_walk_15 : decode cX10_walk 15 = .ok (.iload_n 2, 1) := by decide +kernel
theorem dX10_walk_16 : decode cX10_walk 16 = .ok (.invokevirtual 240, 3) := by decide +kernel
theorem dX10_walk_19 : decode cX10_walk 19 = .ok (.ifCond .ne 9, 3) := by decide +kernel
theorem dX10_walk_22 : decode cX10_walk 22 = .ok (.aload_n 0, 1) := by decide +kernel
theorem dX10_walk_23 : decode cX10_walk 23 = .ok (.iconst 1, 1) := by decide +kernel
theorem dX10_walk_24 : decode cX10_walk 24 = .ok (.invokevirtual 151, 3) := by decide +kernel
theorem dX10_walk_27 : decode cX10_walk 27 = .ok (.ireturn, 1) := by decide +kernel
theorem dX10_walk_28 : decode cX10_walk 28 = .ok (.aload_n 0, 1) := by decide +kernel
theorem dX10_walk_29 : decode cX10_walk 29 = .ok (.getfield 22, 3) := by decide +kernel
theorem dX10_walk_32 : decode cX10_walk 32 = .ok (.getfield 274, 3) := by decide +kernel
theorem dX10_walk_35 : decode cX10_walk 35 = .ok (.iload_n 1, 1) := by decide +kernel
theorem dX10_walk_36 : decode cX10_walk 36 = .ok (.iaload, 1) := by decide +kernel
theorem dX10_walk_37 : decode cX10_walk 37 = .ok (.iload_n 2, 1) := by decide +kernel
theorem dX10_walk_38 : decode cX10_walk 38 = .ok (.isub, 1) := by decide +kernel
theorem dX10_walk_39 : decode cX10_walk 39 = .ok (.invokestatic 291, 3) := by decide +kernel
theorem dX10_walk_42 : decode cX10_walk 42 = .ok (.istore_n 3, 1) := by decide +kernel
theorem dX10_walk_43 : decode cX10_walk 43 = .ok (.iload_n 3, 1) := by decide +kernel
theorem dX10_walk_44 : decode cX10_walk 44 = .ok (.ifCond .ne 10, 3) := by decide +kernel
theorem dX10_walk_47 : decode cX10_walk 47 = .ok (.aload_n 0, 1) := by decide +kernel
theorem dX10_walk_48 : decode cX10_walk 48 = .ok (.bipush 7, 2) := by decide +kernel
theorem dX10_walk_50 : decode cX10_walk 50 = .ok (.invokevirtual 151, 3) := by decide +kernel
theorem dX10_walk_53 : decode cX10_walk 53 = .ok (.ireturn, 1) := by decide +kernel
theorem dX10_walk_54 : decode cX10_walk 54 = .ok (.aload_n 0, 1) := by decide +kernel
theorem dX10_walk_55 : decode cX10_walk 55 = .ok (.getfield 22, 3) := by decide +kernel
theorem dX10_walk_58 : decode cX10_walk 58 = .ok (.getfield 274, 3) := by decide +kernel
theorem dX10_walk_61 : decode cX10_walk 61 = .ok (.iload_n 1, 1) := by decide +kernel
theorem dX10_walk_62 : decode cX10_walk 62 = .ok (.iload_n 2, 1) := by decide +kernel
theorem dX10_walk_63 : decode cX10_walk 63 = .ok (.iastore, 1) := by decide +kernel
theorem dX10_walk_64 : decode cX10_walk 64 = .ok (.aload_n 0, 1) := by decide +kernel
theorem dX10_walk_65 : decode cX10_walk 65 = .ok (.iload_n 3, 1) := by decide +kernel
theorem dX10_walk_66 : decode cX10_walk 66 = .ok (.invokevirtual 199, 3) := by decide +kernel
theorem dX10_walk_69 : decode cX10_walk 69 = .ok (.ireturn, 1) := by decide +kernel
theorem dX10_pick_0 : decode cX10_pick 0 = .ok (.aload_n 0, 1) := by decide +kernel
theorem dX10_pick_1 : decode cX10_pick 1 = .ok (.getfield 22, 3) := by decide +kernel
theorem dX10_pick_4 : decode cX10_pick 4 = .ok (.iload_n 1, 1) := by decide +kernel
theorem dX10_pick_5 : decode cX10_pick 5 = .ok (.invokevirtual 271, 3) := by decide +kernel
theorem dX10_pick_8 : decode cX10_pick 8 = .ok (.ifCond .ne 9, 3) := by decide +kernel
theorem dX10_pick_11 : decode cX10_pick 11 = .ok (.aload_n 0, 1) := by decide +kernel
theorem dX10_pick_12 : decode cX10_pick 12 = .ok (.iconst 1, 1) := by decide +kernel
theorem dX10_pick_13 : decode cX10_pick 13 = .ok (.invokevirtual 151, 3) := by decide +kernel
theorem dX10_pick_16 : decode cX10_pick 16 = .ok (.ireturn, 1) := by decide +kernel
theorem dX10_pick_17 : decode cX10_pick 17 = .ok (.aload_n 0, 1) := by decide +kernel
theorem dX10_pick_18 : decode cX10_pick 18 = .ok (.getfield 22, 3) := by decide +kernel
theorem dX10_pick_21 : decode cX10_pick 21 = .ok (.iload_n 1, 1) := by decide +kernel
theorem dX10_pick_22 : decode cX10_pick 22 = .ok (.invokevirtual 296, 3) := by decide +kernel
theorem dX10_pick_25 : decode cX10_pick 25 = .ok (.istore_n 2, 1) := by decide +kernel
theorem dX10_pick_26 : decode cX10_pick 26 = .ok (.iload_n 2, 1) := by decide +kernel
theorem dX10_pick_27 : decode cX10_pick 27 = .ok (.ifCond .ne 12, 3) := by decide +kernel
theorem dX10_pick_30 : decode cX10_pick 30 = .ok (.aload_n 0, 1) := by decide +kernel
theorem dX10_pick_31 : decode cX10_pick 31 = .ok (.bipush 7, 2) := by decide +kernel
theorem dX10_pick_33 : decode cX10_pick 33 = .ok (.invokevirtual 151, 3) := by decide +kernel
theorem dX10_pick_36 : decode cX10_pick 36 = .ok (.goto 8, 3) := by decide +kernel
theorem dX10_pick_39 : decode cX10_pick 39 = .ok (.aload_n 0, 1) := by decide +kernel
theorem dX10_pick_40 : decode cX10_pick 40 = .ok (.iload_n 2, 1) := by decide +kernel
theorem dX10_pick_41 : decode cX10_pick 41 = .ok (.invokevirtual 199, 3) := by decide +kernel
theorem dX10_pick_44 : decode cX10_pick 44 = .ok (.ireturn, 1) := by decide +kernel
theorem dX10_night_0 : decode cX10_night 0 = .ok (.iload_n 1, 1) := by decide +kernel
theorem dX10_night_1 : decode cX10_night 1 = .ok (.iconst 1, 1) := by decide +kernel
theorem dX10_night_2 : decode cX10_night 2 = .ok (.bipush 99, 2) := by decide +kernel
theorem dX10_night_4 : decode cX10_night 4 = .ok (.invokestatic 128, 3) := by decide +kernel
theorem dX10_night_7 : decode cX10_night 7 = .ok (.ifCond .ne 9, 3) := by decide +kernel
theorem dX10_night_10 : decode cX10_night 10 = .ok (.aload_n 0, 1) := by decide +kernel
theorem dX10_night_11 : decode cX10_night 11 = .ok (.iconst 1, 1) := by decide +kernel
theorem dX10_night_12 : decode cX10_night 12 = .ok (.invokevirtual 151, 3) := by decide +kernel
theorem dX10_night_15 : decode cX10_night 15 = .ok (.ireturn, 1) := by decide +kernel
theorem dX10_night_16 : decode cX10_night 16 = .ok (.aload_n 0, 1) := by decide +kernel
theorem dX10_night_17 : decode cX10_night 17 = .ok (.getfield 22, 3) := by decide +kernel
theorem dX10_night_20 : decode cX10_night 20 = .ok (.iload_n 1, 1) := by decide +kernel
theorem dX10_night_21 : decode cX10_night 21 = .ok (.invokevirtual 299, 3) := by decide +kernel
theorem dX10_night_24 : decode cX10_night 24 = .ok (.ifCond .eq 17, 3) := by decide +kernel
theorem dX10_night_27 : decode cX10_night 27 = .ok (.aload_n 0, 1) := by decide +kernel
theorem dX10_night_28 : decode cX10_night 28 = .ok (.aload_n 0, 1) := by decide +kernel
theorem dX10_night_29 : decode cX10_night 29 = .ok (.getfield 22, 3) := by decide +kernel
theorem dX10_night_32 : decode cX10_night 32 = .ok (.invokevirtual 227, 3) := by decide +kernel
theorem dX10_night_35 : decode cX10_night 35 = .ok (.invokevirtual 199, 3) := by decide +kernel
theorem dX10_night_38 : decode cX10_night 38 = .ok (.goto 8, 3) := by decide +kernel
theorem dX10_night_41 : decode cX10_night 41 = .ok (.aload_n 0, 1) := by decide +kernel
theorem dX10_night_42 : decode cX10_night 42 = .ok (.iconst 4, 1) := by decide +kernel
theorem dX10_night_43 : decode cX10_night 43 = .ok (.invokevirtual 151, 3) := by decide +kernel
theorem dX10_night_46 : decode cX10_night 46 = .ok (.ireturn, 1) := by decide +kernel
theorem dX10_weed_0 : decode cX10_weed 0 = .ok (.aload_n 0, 1) := by decide +kernel
theorem dX10_weed_1 : decode cX10_weed 1 = .ok (.getfield 22, 3) := by decide +kernel
theorem dX10_weed_4 : decode cX10_weed 4 = .ok (.iload_n 1, 1) := by decide +kernel
theorem dX10_weed_5 : decode cX10_weed 5 = .ok (.invokevirtual 240, 3) := by decide +kernel
theorem dX10_weed_8 : decode cX10_weed 8 = .ok (.ifCond .ne 9, 3) := by decide +kernel
theorem dX10_weed_11 : decode cX10_weed 11 = .ok (.aload_n 0, 1) := by decide +kernel
theorem dX10_weed_12 : decode cX10_weed 12 = .ok (.iconst 1, 1) := by decide +kernel
theorem dX10_weed_13 : decode cX10_weed 13 = .ok (.invokevirtual 151, 3) := by decide +kernel
theorem dX10_weed_16 : decode cX10_weed 16 = .ok (.ireturn, 1) := by decide +kernel
theorem dX10_weed_17 : decode cX10_weed 17 = .ok (.aload_n 0, 1) := by decide +kernel
theorem dX10_weed_18 : decode cX10_weed 18 = .ok (.getfield 22, 3) := by decide +kernel
theorem dX10_weed_21 : decode cX10_weed 21 = .ok (.getfield 247, 3) := by decide +kernel
theorem dX10_weed_24 : decode cX10_weed 24 = .ok (.iload_n 1, 1) := by decide +kernel
theorem dX10_weed_25 : decode cX10_weed 25 = .ok (.iaload, 1) := by decide +kernel
theorem dX10_weed_26 : decode cX10_weed 26 = .ok (.istore_n 2, 1) := by decide +kernel
theorem dX10_weed_27 : decode cX10_weed 27 = .ok (.iload_n 2, 1) := by decide +kernel
theorem dX10_weed_28 : decode cX10_weed 28 = .ok (.ifCond .ne 10, 3) := by decide +kernel
theorem dX10_weed_31 : decode cX10_weed 31 = .ok (.aload_n 0, 1) := by decide +kernel
theorem dX10_weed_32 : decode cX10_weed 32 = .ok (.bipush 7, 2) := by decide +kernel
theorem dX10_weed_34 : decode cX10_weed 34 = .ok (.invokevirtual 151, 3) := by decide +kernel
theorem dX10_weed_37 : decode cX10_weed 37 = .ok (.ireturn, 1) := by decide +kernel
theorem dX10_weed_38 : decode cX10_weed 38 = .ok (.aload_n 0, 1) := by decide +kernel
theorem dX10_weed_39 : decode cX10_weed 39 = .ok (.getfield 22, 3) := by decide +kernel
theorem dX10_weed_42 : decode cX10_weed 42 = .ok (.getfield 247, 3) := by decide +kernel
theorem dX10_weed_45 : decode cX10_weed 45 = .ok (.iload_n 1, 1) := by decide +kernel
theorem dX10_weed_46 : decode cX10_weed 46 = .ok (.iconst 0, 1) := by decide +kernel
theorem dX10_weed_47 : decode cX10_weed 47 = .ok (.iastore, 1) := by decide +kernel
theorem dX10_weed_48 : decode cX10_weed 48 = .ok (.aload_n 0, 1) := by decide +kernel
theorem dX10_weed_49 : decode cX10_weed 49 = .ok (.iload_n 2, 1) := by decide +kernel
theorem dX10_weed_50 : decode cX10_weed 50 = .ok (.invokevirtual 199, 3) := by decide +kernel
theorem dX10_weed_53 : decode cX10_weed 53 = .ok (.ireturn, 1) := by decide +kernel
theorem dX10_teach_0 : decode cX10_teach 0 = .ok (.aload_n 0, 1) := by decide +kernel
theorem dX10_teach_1 : decode cX10_teach 1 = .ok (.getfield 22, 3) := by decide +kernel
theorem dX10_teach_4 : decode cX10_teach 4 = .ok (.iload_n 1, 1) := by decide +kernel
theorem dX10_teach_5 : decode cX10_teach 5 = .ok (.invokevirtual 256, 3) := by decide +kernel
theorem dX10_teach_8 : decode cX10_teach 8 = .ok (.ifCond .eq 14, 3) := by decide +kernel
theorem dX10_teach_11 : decode cX10_teach 11 = .ok (.aload_n 0, 1) := by decide +kernel
theorem dX10_teach_12 : decode cX10_teach 12 = .ok (.getfield 22, 3) := by decide +kernel
theorem dX10_teach_15 : decode cX10_teach 15 = .ok (.iload_n 2, 1) := by decide +kernel
theorem dX10_teach_16 : decode cX10_teach 16 = .ok (.invokevirtual 250, 3) := by decide +kernel
theorem dX10_teach_19 : decode cX10_teach 19 = .ok (.ifCond .ne 9, 3) := by decide +kernel
theorem dX10_teach_22 : decode cX10_teach 22 = .ok (.aload_n 0, 1) := by decide +kernel
theorem dX10_teach_23 : decode cX10_teach 23 = .ok (.iconst 1, 1) := by decide +kernel
theorem dX10_teach_24 : decode cX10_teach 24 = .ok (.invokevirtual 132, 3) := by decide +kernel
theorem dX10_teach_27 : decode cX10_teach 27 = .ok (.ireturn, 1) := by decide +kernel
theorem dX10_teach_28 : decode cX10_teach 28 = .ok (.iconst 1, 1) := by decide +kernel
theorem dX10_teach_29 : decode cX10_teach 29 = .ok (.iload_n 2, 1) := by decide +kernel
theorem dX10_teach_30 : decode cX10_teach 30 = .ok (.ishl, 1) := by decide +kernel
theorem dX10_teach_31 : decode cX10_teach 31 = .ok (.istore 4, 2) := by decide +kernel
theorem dX10_teach_33 : decode cX10_teach 33 = .ok (.aload_n 0, 1) := by decide +kernel
theorem dX10_teach_34 : decode cX10_teach 34 = .ok (.getfield 22, 3) := by decide +kernel
theorem dX10_teach_37 : decode cX10_teach 37 = .ok (.getfield 265, 3) := by decide +kernel
theorem dX10_teach_40 : decode cX10_teach 40 = .ok (.iload_n 1, 1) := by decide +kernel
theorem dX10_teach_41 : decode cX10_teach 41 = .ok (.iaload, 1) := by decide +kernel
theorem dX10_teach_42 : decode cX10_teach 42 = .ok (.iload 4, 2) := by decide +kernel
theorem dX10_teach_44 : decode cX10_teach 44 = .ok (.iand, 1) := by decide +kernel
theorem dX10_teach_45 : decode cX10_teach 45 = .ok (.ifCond .eq 7, 3) := by decide +kernel
theorem dX10_teach_48 : decode cX10_teach 48 = .ok (.iconst 1, 1) := by decide +kernel
theorem dX10_teach_49 : decode cX10_teach 49 = .ok (.goto 4, 3) := by decide +kernel
theorem dX10_teach_52 : decode cX10_teach 52 = .ok (.iconst 0, 1) := by decide +kernel
theorem dX10_teach_53 : decode cX10_teach 53 = .ok (.istore 5, 2) := by decide +kernel
theorem dX10_teach_55 : decode cX10_teach 55 = .ok (.iload 5, 2) := by decide +kernel
theorem dX10_teach_57 : decode cX10_teach 57 = .ok (.iload_n 3, 1) := by decide +kernel
theorem dX10_teach_58 : decode cX10_teach 58 = .ok (.if_icmp .ne 10, 3) := by decide +kernel
theorem dX10_teach_61 : decode cX10_teach 61 = .ok (.aload_n 0, 1) := by decide +kernel
theorem dX10_teach_62 : decode cX10_teach 62 = .ok (.bipush 7, 2) := by decide +kernel
theorem dX10_teach_64 : decode cX10_teach 64 = .ok (.invokevirtual 132, 3) := by decide +kernel
theorem dX10_teach_67 : decode cX10_teach 67 = .ok (.ireturn, 1) := by decide +kernel
theorem dX10_teach_68 : decode cX10_teach 68 = .ok (.aload_n 0, 1) := by decide +kernel
theorem dX10_teach_69 : decode cX10_teach 69 = .ok (.getfield 22, 3) := by decide +kernel
theorem dX10_teach_72 : decode cX10_teach 72 = .ok (.getfield 265, 3) := by decide +kernel
theorem dX10_teach_75 : decode cX10_teach 75 = .ok (.iload_n 1, 1) := by decide +kernel
theorem dX10_teach_76 : decode cX10_teach 76 = .ok (.dup2, 1) := by decide +kernel
theorem dX10_teach_77 : decode cX10_teach 77 = .ok (.iaload, 1) := by decide +kernel
theorem dX10_teach_78 : decode cX10_teach 78 = .ok (.iload 4, 2) := by decide +kernel
theorem dX10_teach_80 : decode cX10_teach 80 = .ok (.ixor, 1) := by decide +kernel
theorem dX10_teach_81 : decode cX10_teach 81 = .ok (.iastore, 1) := by decide +kernel
theorem dX10_teach_82 : decode cX10_teach 82 = .ok (.aload_n 0, 1) := by decide +kernel
theorem dX10_teach_83 : decode cX10_teach 83 = .ok (.invokevirtual 139, 3) := by decide +kernel
theorem dX10_teach_86 : decode cX10_teach 86 = .ok (.ireturn, 1) := by decide +kernel
theorem dX10_weigh_0 : decode cX10_weigh 0 = .ok (.aload_n 0, 1) := by decide +kernel
theorem dX10_weigh_1 : decode cX10_weigh 1 = .ok (.getfield 22, 3) := by decide +kernel
theorem dX10_weigh_4 : decode cX10_weigh 4 = .ok (.iload_n 1, 1) := by decide +kernel
theorem dX10_weigh_5 : decode cX10_weigh 5 = .ok (.invokevirtual 250, 3) := by decide +kernel
theorem dX10_weigh_8 : decode cX10_weigh 8 = .ok (.ifCond .eq 13, 3) := by decide +kernel
theorem dX10_weigh_11 : decode cX10_weigh 11 = .ok (.iload_n 2, 1) := by decide +kernel
theorem dX10_weigh_12 : decode cX10_weigh 12 = .ok (.iconst 1, 1) := by decide +kernel
theorem dX10_weigh_13 : decode cX10_weigh 13 = .ok (.bipush 20, 2) := by decide +kernel
theorem dX10_weigh_15 : decode cX10_weigh 15 = .ok (.invokestatic 128, 3) := by decide +kernel
theorem dX10_weigh_18 : decode cX10_weigh 18 = .ok (.ifCond .ne 9, 3) := by decide +kernel
theorem dX10_weigh_21 : decode cX10_weigh 21 = .ok (.aload_n 0, 1) := by decide +kernel
theorem dX10_weigh_22 : decode cX10_weigh 22 = .ok (.iconst 1, 1) := by decide +kernel
theorem dX10_weigh_23 : decode cX10_weigh 23 = .ok (.invokevirtual 151, 3) := by decide +kernel
theorem dX10_weigh_26 : decode cX10_weigh 26 = .ok (.ireturn, 1) := by decide +kernel
theorem dX10_weigh_27 : decode cX10_weigh 27 = .ok (.aload_n 0, 1) := by decide +kernel
theorem dX10_weigh_28 : decode cX10_weigh 28 = .ok (.getfield 22, 3) := by decide +kernel
theorem dX10_weigh_31 : decode cX10_weigh 31 = .ok (.getfield 253, 3) := by decide +kernel
theorem dX10_weigh_34 : decode cX10_weigh 34 = .ok (.iload_n 1, 1) := by decide +kernel
theorem dX10_weigh_35 : decode cX10_weigh 35 = .ok (.iaload, 1) := by decide +kernel
theorem dX10_weigh_36 : decode cX10_weigh 36 = .ok (.istore_n 3, 1) := by decide +kernel
theorem dX10_weigh_37 : decode cX10_weigh 37 = .ok (.aload_n 0, 1) := by decide +kernel
theorem dX10_weigh_38 : decode cX10_weigh 38 = .ok (.getfield 22, 3) := by decide +kernel
theorem dX10_weigh_41 : decode cX10_weigh 41 = .ok (.getfield 253, 3) := by decide +kernel
theorem dX10_weigh_44 : decode cX10_weigh 44 = .ok (.iload_n 1, 1) := by decide +kernel
theorem dX10_weigh_45 : decode cX10_weigh 45 = .ok (.iload_n 2, 1) := by decide +kernel
theorem dX10_weigh_46 : decode cX10_weigh 46 = .ok (.iastore, 1) := by decide +kernel
theorem dX10_weigh_47 : decode cX10_weigh 47 = .ok (.aload_n 0, 1) := by decide +kernel
theorem dX10_weigh_48 : decode cX10_weigh 48 = .ok (.iload_n 3, 1) := by decide +kernel
theorem dX10_weigh_49 : decode cX10_weigh 49 = .ok (.invokevirtual 199, 3) := by decide +kernel
theorem dX10_weigh_52 : decode cX10_weigh 52 = .ok (.ireturn, 1) := by decide +kernel
theorem dX10_think_0 : decode cX10_think 0 = .ok (.aload_n 0, 1) := by decide +kernel
theorem dX10_think_1 : decode cX10_think 1 = .ok (.getfield 22, 3) := by decide +kernel
theorem dX10_think_4 : decode cX10_think 4 = .ok (.iload_n 1, 1) := by decide +kernel
theorem dX10_think_5 : decode cX10_think 5 = .ok (.invokevirtual 302, 3) := by decide +kernel
theorem dX10_think_8 : decode cX10_think 8 = .ok (.ifCond .eq 24, 3) := by decide +kernel
theorem dX10_think_11 : decode cX10_think 11 = .ok (.aload_n 0, 1) := by decide +kernel
theorem dX10_think_12 : decode cX10_think 12 = .ok (.getfield 22, 3) := by decide +kernel
theorem dX10_think_15 : decode cX10_think 15 = .ok (.iload_n 2, 1) := by decide +kernel
theorem dX10_think_16 : decode cX10_think 16 = .ok (.invokevirtual 240, 3) := by decide +kernel
theorem dX10_think_19 : decode cX10_think 19 = .ok (.ifCond .eq 13, 3) := by decide +kernel
theorem dX10_think_22 : decode cX10_think 22 = .ok (.iload_n 3, 1) := by decide +kernel
theorem dX10_think_23 : decode cX10_think 23 = .ok (.iconst 1, 1) := by decide +kernel
theorem dX10_think_24 : decode cX10_think 24 = .ok (.bipush 9, 2) := by decide +kernel
theorem dX10_think_26 : decode cX10_think 26 = .ok (.invokestatic 128, 3) := by decide +kernel
theorem dX10_think_29 : decode cX10_think 29 = .ok (.ifCond .ne 9, 3) := by decide +kernel
theorem dX10_think_32 : decode cX10_think 32 = .ok (.aload_n 0, 1) := by decide +kernel
theorem dX10_think_33 : decode cX10_think 33 = .ok (.iconst 1, 1) := by decide +kernel
theorem dX10_think_34 : decode cX10_think 34 = .ok (.invokevirtual 151, 3) := by decide +kernel
theorem dX10_think_37 : decode cX10_think 37 = .ok (.ireturn, 1) := by decide +kernel
theorem dX10_think_38 : decode cX10_think 38 = .ok (.aload_n 0, 1) := by decide +kernel
theorem dX10_think_39 : decode cX10_think 39 = .ok (.getfield 22, 3) := by decide +kernel
theorem dX10_think_42 : decode cX10_think 42 = .ok (.getfield 196, 3) := by decide +kernel
theorem dX10_think_45 : decode cX10_think 45 = .ok (.bipush 7, 2) := by decide +kernel
theorem dX10_think_47 : decode cX10_think 47 = .ok (.if_icmp .lt 9, 3) := by decide +kernel
theorem dX10_think_50 : decode cX10_think 50 = .ok (.aload_n 0, 1) := by decide +kernel
theorem dX10_think_51 : decode cX10_think 51 = .ok (.iconst 4, 1) := by decide +kernel
theorem dX10_think_52 : decode cX10_think 52 = .ok (.invokevirtual 151, 3) := by decide +kernel
theorem dX10_think_55 : decode cX10_think 55 = .ok (.ireturn, 1) := by decide +kernel
theorem dX10_think_56 : decode cX10_think 56 = .ok (.aload_n 0, 1) := by decide +kernel
theorem dX10_think_57 : decode cX10_think 57 = .ok (.getfield 22, 3) := by decide +kernel
theorem dX10_think_60 : decode cX10_think 60 = .ok (.lconst 0, 1) := by decide +kernel
theorem dX10_think_61 : decode cX10_think 61 = .ok (.iload_n 2, 1) := by decide +kernel
theorem dX10_think_62 : decode cX10_think 62 = .ok (.iload_n 3, 1) := by decide +kernel
theorem dX10_think_63 : decode cX10_think 63 = .ok (.iload_n 1, 1) := by decide +kernel
theorem dX10_think_64 : decode cX10_think 64 = .ok (.invokevirtual 305, 3) := by decide +kernel
theorem dX10_think_67 : decode cX10_think 67 = .ok (.aload_n 0, 1) := by decide +kernel
theorem dX10_think_68 : decode cX10_think 68 = .ok (.aload_n 0, 1) := by decide +kernel
theorem dX10_think_69 : decode cX10_think 69 = .ok (.getfield 22, 3) := by decide +kernel
theorem dX10_think_72 : decode cX10_think 72 = .ok (.getfield 196, 3) := by decide +kernel
theorem dX10_think_75 : decode cX10_think 75 = .ok (.iconst 1, 1) := by decide +kernel
theorem dX10_think_76 : decode cX10_think 76 = .ok (.isub, 1) := by decide +kernel
theorem dX10_think_77 : decode cX10_think 77 = .ok (.invokevirtual 199, 3) := by decide +kernel
theorem dX10_think_80 : decode cX10_think 80 = .ok (.ireturn, 1) := by decide +kernel
theorem dX10_rule_0 : decode cX10_rule 0 = .ok (.iload_n 1, 1) := by decide +kernel
theorem dX10_rule_1 : decode cX10_rule 1 = .ok (.iconst 0, 1) := by decide +kernel
theorem dX10_rule_2 : decode cX10_rule 2 = .ok (.bipush 16, 2) := by decide +kernel
theorem dX10_rule_4 : decode cX10_rule 4 = .ok (.invokestatic 128, 3) := by decide +kernel
theorem dX10_rule_7 : decode cX10_rule 7 = .ok (.ifCond .ne 9, 3) := by decide +kernel
theorem dX10_rule_10 : decode cX10_rule 10 = .ok (.aload_n 0, 1) := by decide +kernel
theorem dX10_rule_11 : decode cX10_rule 11 = .ok (.iconst 1, 1) := by decide +kernel
theorem dX10_rule_12 : decode cX10_rule 12 = .ok (.invokevirtual 132, 3) := by decide +kernel
theorem dX10_rule_15 : decode cX10_rule 15 = .ok (.ireturn, 1) := by decide +kernel
theorem dX10_rule_16 : decode cX10_rule 16 = .ok (.aload_n 0, 1) := by decide +kernel
theorem dX10_rule_17 : decode cX10_rule 17 = .ok (.getfield 22, 3) := by decide +kernel
theorem dX10_rule_20 : decode cX10_rule 20 = .ok (.iload_n 1, 1) := by decide +kernel
theorem dX10_rule_21 : decode cX10_rule 21 = .ok (.putfield 218, 3) := by decide +kernel
theorem dX10_rule_24 : decode cX10_rule 24 = .ok (.aload_n 0, 1) := by decide +kernel
theorem dX10_rule_25 : decode cX10_rule 25 = .ok (.invokevirtual 139, 3) := by decide +kernel
theorem dX10_rule_28 : decode cX10_rule 28 = .ok (.ireturn, 1) := by decide +kernel
theorem dX10_partOf_0 : decode cX10_partOf 0 = .ok (.aload_n 0, 1) := by decide +kernel
theorem dX10_partOf_1 : decode cX10_partOf 1 = .ok (.getfield 22, 3) := by decide +kernel
theorem dX10_partOf_4 : decode cX10_partOf 4 = .ok (.iload_n 1, 1) := by decide +kernel
theorem dX10_partOf_5 : decode cX10_partOf 5 = .ok (.invokevirtual 250, 3) := by decide +kernel
theorem dX10_partOf_8 : decode cX10_partOf 8 = .ok (.ifCond .eq 25, 3) := by decide +kernel
theorem dX10_partOf_11 : decode cX10_partOf 11 = .ok (.aload_n 0, 1) := by decide +kernel
theorem dX10_partOf_12 : decode cX10_partOf 12 = .ok (.aload_n 0, 1) := by decide +kernel
theorem dX10_partOf_13 : decode cX10_partOf 13 = .ok (.getfield 22, 3) := by decide +kernel
theorem dX10_partOf_16 : decode cX10_partOf 16 = .ok (.aload_n 0, 1) := by decide +kernel
theorem dX10_partOf_17 : decode cX10_partOf 17 = .ok (.getfield 22, 3) := by decide +kernel
theorem dX10_partOf_20 : decode cX10_partOf 20 = .ok (.getfield 224, 3) := by decide +kernel
theorem dX10_partOf_23 : decode cX10_partOf 23 = .ok (.iload_n 1, 1) := by decide +kernel
theorem dX10_partOf_24 : decode cX10_partOf 24 = .ok (.invokevirtual 309, 3) := by decide +kernel
theorem dX10_partOf_27 : decode cX10_partOf 27 = .ok (.invokevirtual 199, 3) := by decide +kernel
theorem dX10_partOf_30 : decode cX10_partOf 30 = .ok (.goto 8, 3) := by decide +kernel
theorem dX10_partOf_33 : decode cX10_partOf 33 = .ok (.aload_n 0, 1) := by decide +kernel
theorem dX10_partOf_34 : decode cX10_partOf 34 = .ok (.iconst 1, 1) := by decide +kernel
theorem dX10_partOf_35 : decode cX10_partOf 35 = .ok (.invokevirtual 151, 3) := by decide +kernel
theorem dX10_partOf_38 : decode cX10_partOf 38 = .ok (.ireturn, 1) := by decide +kernel
theorem dX10_couples_0 : decode cX10_couples 0 = .ok (.iconst 0, 1) := by decide +kernel
theorem dX10_couples_1 : decode cX10_couples 1 = .ok (.istore_n 1, 1) := by decide +kernel
theorem dX10_couples_2 : decode cX10_couples 2 = .ok (.iconst 0, 1) := by decide +kernel
theorem dX10_couples_3 : decode cX10_couples 3 = .ok (.istore_n 2, 1) := by decide +kernel
theorem dX10_couples_4 : decode cX10_couples 4 = .ok (.iload_n 2, 1) := by decide +kernel
theorem dX10_couples_5 : decode cX10_couples 5 = .ok (.aload_n 0, 1) := by decide +kernel
theorem dX10_couples_6 : decode cX10_couples 6 = .ok (.getfield 22, 3) := by decide +kernel
theorem dX10_couples_9 : decode cX10_couples 9 = .ok (.getfield 212, 3) := by decide +kernel
theorem dX10_couples_12 : decode cX10_couples 12 = .ok (.if_icmp .ge 32, 3) := by decide +kernel
theorem dX10_couples_15 : decode cX10_couples 15 = .ok (.iload_n 1, 1) := by decide +kernel
theorem dX10_couples_16 : decode cX10_couples 16 = .ok (.aload_n 0, 1) := by decide +kernel
theorem dX10_couples_17 : decode cX10_couples 17 = .ok (.getfield 22, 3) := by decide +kernel
theorem dX10_couples_20 : decode cX10_couples 20 = .ok (.aload_n 0, 1) := by decide +kernel
theorem dX10_couples_21 : decode cX10_couples 21 = .ok (.getfield 22, 3) := by decide +kernel
theorem dX10_couples_24 : decode cX10_couples 24 = .ok (.getfield 224, 3) := by decide +kernel
theorem dX10_couples_27 : decode cX10_couples 27 = .ok (.iload_n 2, 1) := by decide +kernel
theorem dX10_couples_28 : decode cX10_couples 28 = .ok (.invokevirtual 309, 3) := by decide +kernel
theorem dX10_couples_31 : decode cX10_couples 31 = .ok (.invokestatic 286, 3) := by decide +kernel
theorem dX10_couples_34 : decode cX10_couples 34 = .ok (.iconst 1, 1) := by decide +kernel
theorem dX10_couples_35 : decode cX10_couples 35 = .ok (.isub, 1) := by decide +kernel
theorem dX10_couples_36 : decode cX10_couples 36 = .ok (.iadd, 1) := by decide +kernel
theorem dX10_couples_37 : decode cX10_couples 37 = .ok (.istore_n 1, 1) := by decide +kernel
theorem dX10_couples_38 : decode cX10_couples 38 = .ok (.iinc 2 1, 3) := by decide +kernel
theorem dX10_couples_41 : decode cX10_couples 41 = .ok (.goto (-37), 3) := by decide +kernel
theorem dX10_couples_44 : decode cX10_couples 44 = .ok (.aload_n 0, 1) := by decide +kernel
theorem dX10_couples_45 : decode cX10_couples 45 = .ok (.iload_n 1, 1) := by decide +kernel
theorem dX10_couples_46 : decode cX10_couples 46 = .ok (.iconst 2, 1) := by decide +kernel
theorem dX10_couples_47 : decode cX10_couples 47 = .ok (.idiv, 1) := by decide +kernel
theorem dX10_couples_48 : decode cX10_couples 48 = .ok (.invokevirtual 199, 3) := by decide +kernel
theorem dX10_couples_51 : decode cX10_couples 51 = .ok (.ireturn, 1) := by decide +kernel
theorem dX10_parting_0 : decode cX10_parting 0 = .ok (.aload_n 0, 1) := by decide +kernel
theorem dX10_parting_1 : decode cX10_parting 1 = .ok (.getfield 22, 3) := by decide +kernel
theorem dX10_parting_4 : decode cX10_parting 4 = .ok (.iload_n 1, 1) := by decide +kernel
theorem dX10_parting_5 : decode cX10_parting 5 = .ok (.invokevirtual 250, 3) := by decide +kernel
theorem dX10_parting_8 : decode cX10_parting 8 = .ok (.ifCond .eq 19, 3) := by decide +kernel
theorem dX10_parting_11 : decode cX10_parting 11 = .ok (.aload_n 0, 1) := by decide +kernel
theorem dX10_parting_12 : decode cX10_parting 12 = .ok (.getfield 22, 3) := by decide +kernel
theorem dX10_parting_15 : decode cX10_parting 15 = .ok (.iload_n 2, 1) := by decide +kernel
theorem dX10_parting_16 : decode cX10_parting 16 = .ok (.invokevirtual 250, 3) := by decide +kernel
theorem dX10_parting_19 : decode cX10_parting 19 = .ok (.ifCond .eq 8, 3) := by decide +kernel
theorem dX10_parting_22 : decode cX10_parting 22 = .ok (.iload_n 1, 1) := by decide +kernel
theorem dX10_parting_23 : decode cX10_parting 23 = .ok (.iload_n 2, 1) := by decide +kernel
theorem dX10_parting_24 : decode cX10_parting 24 = .ok (.if_icmp .ne 9, 3) := by decide +kernel
theorem dX10_parting_27 : decode cX10_parting 27 = .ok (.aload_n 0, 1) := by decide +kernel
theorem dX10_parting_28 : decode cX10_parting 28 = .ok (.iconst 1, 1) := by decide +kernel
theorem dX10_parting_29 : decode cX10_parting 29 = .ok (.invokevirtual 151, 3) := by decide +kernel
theorem dX10_parting_32 : decode cX10_parting 32 = .ok (.ireturn, 1) := by decide +kernel
theorem dX10_parting_33 : decode cX10_parting 33 = .ok (.aload_n 0, 1) := by decide +kernel
theorem dX10_parting_34 : decode cX10_parting 34 = .ok (.aload_n 0, 1) := by decide +kernel
theorem dX10_parting_35 : decode cX10_parting 35 = .ok (.getfield 22, 3) := by decide +kernel
theorem dX10_parting_38 : decode cX10_parting 38 = .ok (.iload_n 1, 1) := by decide +kernel
theorem dX10_parting_39 : decode cX10_parting 39 = .ok (.iload_n 2, 1) := by decide +kernel
theorem dX10_parting_40 : decode cX10_parting 40 = .ok (.invokevirtual 312, 3) := by decide +kernel
theorem dX10_parting_43 : decode cX10_parting 43 = .ok (.invokevirtual 199, 3) := by decide +kernel
theorem dX10_parting_46 : decode cX10_parting 46 = .ok (.ireturn, 1) := by decide +kernel
theorem dX10_barren_0 : decode cX10_barren 0 = .ok (.iconst 0, 1) := by decide +kernel
theorem dX10_barren_1 : decode cX10_barren 1 = .ok (.istore_n 1, 1) := by decide +kernel
theorem dX10_barren_2 : decode cX10_barren 2 = .ok (.iconst 0, 1) := by decide +kernel
theorem dX10_barren_3 : decode cX10_barren 3 = .ok (.istore_n 2, 1) := by decide +kernel
theorem dX10_barren_4 : decode cX10_barren 4 = .ok (.iload_n 2, 1) := by decide +kernel
theorem dX10_barren_5 : decode cX10_barren 5 = .ok (.aload_n 0, 1) := by decide +kernel
theorem dX10_barren_6 : decode cX10_barren 6 = .ok (.getfield 22, 3) := by decide +kernel
theorem dX10_barren_9 : decode cX10_barren 9 = .ok (.getfield 196, 3) := by decide +kernel
theorem dX10_barren_12 : decode cX10_barren 12 = .ok (.if_icmp .ge 44, 3) := by decide +kernel
theorem dX10_barren_15 : decode cX10_barren 15 = .ok (.aload_n 0, 1) := by decide +kernel
theorem dX10_barren_16 : decode cX10_barren 16 = .ok (.getfield 22, 3) := by decide +kernel
theorem dX10_barren_19 : decode cX10_barren 19 = .ok (.iload_n 2, 1) := by decide +kernel
theorem dX10_barren_20 : decode cX10_barren 20 = .ok (.invokevirtual 280, 3) := by decide +kernel
theorem dX10_barren_23 : decode cX10_barren 23 = .ok (.ifCond .ne 27, 3) := by decide +kernel
theorem dX10_barren_26 : decode cX10_barren 26 = .ok (.aload_n 0, 1) := by decide +kernel
theorem dX10_barren_27 : decode cX10_barren 27 = .ok (.getfield 22, 3) := by decide +kernel
theorem dX10_barren_30 : decode cX10_barren 30 = .ok (.aload_n 0, 1) := by decide +kernel
theorem dX10_barren_31 : decode cX10_barren 31 = .ok (.getfield 22, 3) := by decide +kernel
theorem dX10_barren_34 : decode cX10_barren 34 = .ok (.getfield 224, 3) := by decide +kernel
theorem dX10_barren_37 : decode cX10_barren 37 = .ok (.iload_n 2, 1) := by decide +kernel
theorem dX10_barren_38 : decode cX10_barren 38 = .ok (.invokevirtual 268, 3) := by decide +kernel
theorem dX10_barren_41 : decode cX10_barren 41 = .ok (.ifCond .ne 9, 3) := by decide +kernel
theorem dX10_barren_44 : decode cX10_barren 44 = .ok (.iload_n 1, 1) := by decide +kernel
theorem dX10_barren_45 : decode cX10_barren 45 = .ok (.iconst 1, 1) := by decide +kernel
theorem dX10_barren_46 : decode cX10_barren 46 = .ok (.iload_n 2, 1) := by decide +kernel
theorem dX10_barren_47 : decode cX10_barren 47 = .ok (.ishl, 1) := by decide +kernel
theorem dX10_barren_48 : decode cX10_barren 48 = .ok (.ior, 1) := by decide +kernel
theorem dX10_barren_49 : decode cX10_barren 49 = .ok (.istore_n 1, 1) := by decide +kernel
theorem dX10_barren_50 : decode cX10_barren 50 = .ok (.iinc 2 1, 3) := by decide +kernel
theorem dX10_barren_53 : decode cX10_barren 53 = .ok (.goto (-49), 3) := by decide +kernel
theorem dX10_barren_56 : decode cX10_barren 56 = .ok (.aload_n 0, 1) := by decide +kernel
theorem dX10_barren_57 : decode cX10_barren 57 = .ok (.iload_n 1, 1) := by decide +kernel
theorem dX10_barren_58 : decode cX10_barren 58 = .ok (.invokevirtual 199, 3) := by decide +kernel
theorem dX10_barren_61 : decode cX10_barren 61 = .ok (.ireturn, 1) := by decide +kernel
theorem dX10_most_0 : decode cX10_most 0 = .ok (.iload_n 1, 1) := by decide +kernel
theorem dX10_most_1 : decode cX10_most 1 = .ok (.iconst 0, 1) := by decide +kernel
theorem dX10_most_2 : decode cX10_most 2 = .ok (.iconst 3, 1) := by decide +kernel
theorem dX10_most_3 : decode cX10_most 3 = .ok (.invokestatic 128, 3) := by decide +kernel
theorem dX10_most_6 : decode cX10_most 6 = .ok (.ifCond .ne 9, 3) := by decide +kernel
theorem dX10_most_9 : decode cX10_most 9 = .ok (.aload_n 0, 1) := by decide +kernel
theorem dX10_most_10 : decode cX10_most 10 = .ok (.iconst 1, 1) := by decide +kernel
theorem dX10_most_11 : decode cX10_most 11 = .ok (.invokevirtual 151, 3) := by decide +kernel
theorem dX10_most_14 : decode cX10_most 14 = .ok (.ireturn, 1) := by decide +kernel
theorem dX10_most_15 : decode cX10_most 15 = .ok (.aload_n 0, 1) := by decide +kernel
theorem dX10_most_16 : decode cX10_most 16 = .ok (.getfield 95, 3) := by decide +kernel
theorem dX10_most_19 : decode cX10_most 19 = .ok (.iload_n 1, 1) := by decide +kernel
theorem dX10_most_20 : decode cX10_most 20 = .ok (.invokevirtual 315, 3) := by decide +kernel
theorem dX10_most_23 : decode cX10_most 23 = .ok (.aload_n 0, 1) := by decide +kernel
theorem dX10_most_24 : decode cX10_most 24 = .ok (.aload_n 0, 1) := by decide +kernel
theorem dX10_most_25 : decode cX10_most 25 = .ok (.getfield 95, 3) := by decide +kernel
theorem dX10_most_28 : decode cX10_most 28 = .ok (.iload_n 1, 1) := by decide +kernel
theorem dX10_most_29 : decode cX10_most 29 = .ok (.invokevirtual 318, 3) := by decide +kernel
theorem dX10_most_32 : decode cX10_most 32 = .ok (.invokevirtual 199, 3) := by decide +kernel
theorem dX10_most_35 : decode cX10_most 35 = .ok (.ireturn, 1) := by decide +kernel
theorem dX10_first_0 : decode cX10_first 0 = .ok (.iload_n 1, 1) := by decide +kernel
theorem dX10_first_1 : decode cX10_first 1 = .ok (.iconst 0, 1) := by decide +kernel
theorem dX10_first_2 : decode cX10_first 2 = .ok (.iconst 3, 1) := by decide +kernel
theorem dX10_first_3 : decode cX10_first 3 = .ok (.invokestatic 128, 3) := by decide +kernel
theorem dX10_first_6 : decode cX10_first 6 = .ok (.ifCond .eq 7, 3) := by decide +kernel
theorem dX10_first_9 : decode cX10_first 9 = .ok (.iload_n 2, 1) := by decide +kernel
theorem dX10_first_10 : decode cX10_first 10 = .ok (.ifCond .ge 9, 3) := by decide +kernel
theorem dX10_first_13 : decode cX10_first 13 = .ok (.aload_n 0, 1) := by decide +kernel
theorem dX10_first_14 : decode cX10_first 14 = .ok (.iconst 1, 1) := by decide +kernel
theorem dX10_first_15 : decode cX10_first 15 = .ok (.invokevirtual 151, 3) := by decide +kernel
theorem dX10_first_18 : decode cX10_first 18 = .ok (.ireturn, 1) := by decide +kernel
theorem dX10_first_19 : decode cX10_first 19 = .ok (.aload_n 0, 1) := by decide +kernel
theorem dX10_first_20 : decode cX10_first 20 = .ok (.getfield 95, 3) := by decide +kernel
theorem dX10_first_23 : decode cX10_first 23 = .ok (.iload_n 1, 1) := by decide +kernel
theorem dX10_first_24 : decode cX10_first 24 = .ok (.invokevirtual 315, 3) := by decide +kernel
theorem dX10_first_27 : decode cX10_first 27 = .ok (.aload_n 0, 1) := by decide +kernel
theorem dX10_first_28 : decode cX10_first 28 = .ok (.aload_n 0, 1) := by decide +kernel
theorem dX10_first_29 : decode cX10_first 29 = .ok (.getfield 95, 3) := by decide +kernel
theorem dX10_first_32 : decode cX10_first 32 = .ok (.iload_n 1, 1) := by decide +kernel
theorem dX10_first_33 : decode cX10_first 33 = .ok (.iload_n 2, 1) := by decide +kernel
theorem dX10_first_34 : decode cX10_first 34 = .ok (.invokevirtual 321, 3) := by decide +kernel
theorem dX10_first_37 : decode cX10_first 37 = .ok (.invokevirtual 324, 3) := by decide +kernel
theorem dX10_first_40 : decode cX10_first 40 = .ok (.ireturn, 1) := by decide +kernel
theorem dX10_fewest_0 : decode cX10_fewest 0 = .ok (.aload_n 0, 1) := by decide +kernel
theorem dX10_fewest_1 : decode cX10_fewest 1 = .ok (.getfield 22, 3) := by decide +kernel
theorem dX10_fewest_4 : decode cX10_fewest 4 = .ok (.iload_n 1, 1) := by decide +kernel
theorem dX10_fewest_5 : decode cX10_fewest 5 = .ok (.invokevirtual 302, 3) := by decide +kernel
theorem dX10_fewest_8 : decode cX10_fewest 8 = .ok (.ifCond .ne 9, 3) := by decide +kernel
theorem dX10_fewest_11 : decode cX10_fewest 11 = .ok (.aload_n 0, 1) := by decide +kernel
theorem dX10_fewest_12 : decode cX10_fewest 12 = .ok (.iconst 1, 1) := by decide +kernel
theorem dX10_fewest_13 : decode cX10_fewest 13 = .ok (.invokevirtual 151, 3) := by decide +kernel
theorem dX10_fewest_16 : decode cX10_fewest 16 = .ok (.ireturn, 1) := by decide +kernel
theorem dX10_fewest_17 : decode cX10_fewest 17 = .ok (.aload_n 0, 1) := by decide +kernel
theorem dX10_fewest_18 : decode cX10_fewest 18 = .ok (.iload_n 1, 1) := by decide +kernel
theorem dX10_fewest_19 : decode cX10_fewest 19 = .ok (.invokevirtual 327, 3) := by decide +kernel
theorem dX10_fewest_22 : decode cX10_fewest 22 = .ok (.istore_n 2, 1) := by decide +kernel
theorem dX10_fewest_23 : decode cX10_fewest 23 = .ok (.iload_n 2, 1) := by decide +kernel
theorem dX10_fewest_24 : decode cX10_fewest 24 = .ok (.iconst (-1), 1) := by decide +kernel
theorem dX10_fewest_25 : decode cX10_fewest 25 = .ok (.if_icmp .ne 12, 3) := by decide +kernel
theorem dX10_fewest_28 : decode cX10_fewest 28 = .ok (.aload_n 0, 1) := by decide +kernel
theorem dX10_fewest_29 : decode cX10_fewest 29 = .ok (.bipush 6, 2) := by decide +kernel
theorem dX10_fewest_31 : decode cX10_fewest 31 = .ok (.invokevirtual 151, 3) := by decide +kernel
theorem dX10_fewest_34 : decode cX10_fewest 34 = .ok (.goto 11, 3) := by decide +kernel
theorem dX10_fewest_37 : decode cX10_fewest 37 = .ok (.aload_n 0, 1) := by decide +kernel
theorem dX10_fewest_38 : decode cX10_fewest 38 = .ok (.iload_n 2, 1) := by decide +kernel
theorem dX10_fewest_39 : decode cX10_fewest 39 = .ok (.invokestatic 286, 3) := by decide +kernel
theorem dX10_fewest_42 : decode cX10_fewest 42 = .ok (.invokevirtual 199, 3) := by decide +kernel
theorem dX10_fewest_45 : decode cX10_fewest 45 = .ok (.ireturn, 1) := by decide +kernel
theorem dX10_fewestSet_0 : decode cX10_fewestSet 0 = .ok (.aload_n 0, 1) := by decide +kernel
theorem dX10_fewestSet_1 : decode cX10_fewestSet 1 = .ok (.getfield 22, 3) := by decide +kernel
theorem dX10_fewestSet_4 : decode cX10_fewestSet 4 = .ok (.iload_n 1, 1) := by decide +kernel
theorem dX10_fewestSet_5 : decode cX10_fewestSet 5 = .ok (.invokevirtual 302, 3) := by decide +kernel
theorem dX10_fewestSet_8 : decode cX10_fewestSet 8 = .ok (.ifCond .eq 15, 3) := by decide +kernel
theorem dX10_fewestSet_11 : decode cX10_fewestSet 11 = .ok (.aload_n 0, 1) := by decide +kernel
theorem dX10_fewestSet_12 : decode cX10_fewestSet 12 = .ok (.aload_n 0, 1) := by decide +kernel
theorem dX10_fewestSet_13 : decode cX10_fewestSet 13 = .ok (.iload_n 1, 1) := by decide +kernel
theorem dX10_fewestSet_14 : decode cX10_fewestSet 14 = .ok (.invokevirtual 327, 3) := by decide +kernel
theorem dX10_fewestSet_17 : decode cX10_fewestSet 17 = .ok (.invokevirtual 324, 3) := by decide +kernel
theorem dX10_fewestSet_20 : decode cX10_fewestSet 20 = .ok (.goto 8, 3) := by decide +kernel
theorem dX10_fewestSet_23 : decode cX10_fewestSet 23 = .ok (.aload_n 0, 1) := by decide +kernel
theorem dX10_fewestSet_24 : decode cX10_fewestSet 24 = .ok (.iconst 1, 1) := by decide +kernel
theorem dX10_fewestSet_25 : decode cX10_fewestSet 25 = .ok (.invokevirtual 151, 3) := by decide +kernel
theorem dX10_fewestSet_28 : decode cX10_fewestSet 28 = .ok (.ireturn, 1) := by decide +kernel
theorem dX10_deep_0 : decode cX10_deep 0 = .ok (.aload_n 0, 1) := by decide +kernel
theorem dX10_deep_1 : decode cX10_deep 1 = .ok (.iload_n 1, 1) := by decide +kernel
theorem dX10_deep_2 : decode cX10_deep 2 = .ok (.invokevirtual 330, 3) := by decide +kernel
theorem dX10_deep_5 : decode cX10_deep 5 = .ok (.ifCond .ne 9, 3) := by decide +kernel
theorem dX10_deep_8 : decode cX10_deep 8 = .ok (.aload_n 0, 1) := by decide +kernel
theorem dX10_deep_9 : decode cX10_deep 9 = .ok (.iconst 1, 1) := by decide +kernel
theorem dX10_deep_10 : decode cX10_deep 10 = .ok (.invokevirtual 151, 3) := by decide +kernel
theorem dX10_deep_13 : decode cX10_deep 13 = .ok (.ireturn, 1) := by decide +kernel
theorem dX10_deep_14 : decode cX10_deep 14 = .ok (.aload_n 0, 1) := by decide +kernel
theorem dX10_deep_15 : decode cX10_deep 15 = .ok (.getfield 88, 3) := by decide +kernel
theorem dX10_deep_18 : decode cX10_deep 18 = .ok (.iload_n 1, 1) := by decide +kernel
theorem dX10_deep_19 : decode cX10_deep 19 = .ok (.iconst 0, 1) := by decide +kernel
theorem dX10_deep_20 : decode cX10_deep 20 = .ok (.invokevirtual 333, 3) := by decide +kernel
theorem dX10_deep_23 : decode cX10_deep 23 = .ok (.aload_n 0, 1) := by decide +kernel
theorem dX10_deep_24 : decode cX10_deep 24 = .ok (.aload_n 0, 1) := by decide +kernel
theorem dX10_deep_25 : decode cX10_deep 25 = .ok (.getfield 88, 3) := by decide +kernel
theorem dX10_deep_28 : decode cX10_deep 28 = .ok (.getfield 337, 3) := by decide +kernel
theorem dX10_deep_31 : decode cX10_deep 31 = .ok (.iload_n 1, 1) := by decide +kernel
theorem dX10_deep_32 : decode cX10_deep 32 = .ok (.iaload, 1) := by decide +kernel
theorem dX10_deep_33 : decode cX10_deep 33 = .ok (.invokevirtual 324, 3) := by decide +kernel
theorem dX10_deep_36 : decode cX10_deep 36 = .ok (.ireturn, 1) := by decide +kernel
theorem dX10_askDeep_0 : decode cX10_askDeep 0 = .ok (.aload_n 0, 1) := by decide +kernel
theorem dX10_askDeep_1 : decode cX10_askDeep 1 = .ok (.iload_n 1, 1) := by decide +kernel
theorem dX10_askDeep_2 : decode cX10_askDeep 2 = .ok (.invokevirtual 330, 3) := by decide +kernel
theorem dX10_askDeep_5 : decode cX10_askDeep 5 = .ok (.ifCond .ne 9, 3) := by decide +kernel
theorem dX10_askDeep_8 : decode cX10_askDeep 8 = .ok (.aload_n 0, 1) := by decide +kernel
theorem dX10_askDeep_9 : decode cX10_askDeep 9 = .ok (.iconst 1, 1) := by decide +kernel
theorem dX10_askDeep_10 : decode cX10_askDeep 10 = .ok (.invokevirtual 151, 3) := by decide +kernel
theorem dX10_askDeep_13 : decode cX10_askDeep 13 = .ok (.ireturn, 1) := by decide +kernel
theorem dX10_askDeep_14 : decode cX10_askDeep 14 = .ok (.aload_n 0, 1) := by decide +kernel
theorem dX10_askDeep_15 : decode cX10_askDeep 15 = .ok (.getfield 88, 3) := by decide +kernel
theorem dX10_askDeep_18 : decode cX10_askDeep 18 = .ok (.iload_n 1, 1) := by decide +kernel
theorem dX10_askDeep_19 : decode cX10_askDeep 19 = .ok (.iconst 0, 1) := by decide +kernel
theorem dX10_askDeep_20 : decode cX10_askDeep 20 = .ok (.invokevirtual 333, 3) := by decide +kernel
theorem dX10_askDeep_23 : decode cX10_askDeep 23 = .ok (.aload_n 0, 1) := by decide +kernel
theorem dX10_askDeep_24 : decode cX10_askDeep 24 = .ok (.aload_n 0, 1) := by decide +kernel
theorem dX10_askDeep_25 : decode cX10_askDeep 25 = .ok (.getfield 88, 3) := by decide +kernel
theorem dX10_askDeep_28 : decode cX10_askDeep 28 = .ok (.getfield 340, 3) := by decide +kernel
theorem dX10_askDeep_31 : decode cX10_askDeep 31 = .ok (.iload_n 1, 1) := by decide +kernel
theorem dX10_askDeep_32 : decode cX10_askDeep 32 = .ok (.iaload, 1) := by decide +kernel
theorem dX10_askDeep_33 : decode cX10_askDeep 33 = .ok (.invokevirtual 324, 3) := by decide +kernel
theorem dX10_askDeep_36 : decode cX10_askDeep 36 = .ok (.ireturn, 1) := by decide +kernel
theorem dX10_dear_0 : decode cX10_dear 0 = .ok (.aload_n 0, 1) := by decide +kernel
theorem dX10_dear_1 : decode cX10_dear 1 = .ok (.iload_n 1, 1) := by decide +kernel
theorem dX10_dear_2 : decode cX10_dear 2 = .ok (.invokevirtual 330, 3) := by decide +kernel
theorem dX10_dear_5 : decode cX10_dear 5 = .ok (.ifCond .ne 9, 3) := by decide +kernel
theorem dX10_dear_8 : decode cX10_dear 8 = .ok (.aload_n 0, 1) := by decide +kernel
theorem dX10_dear_9 : decode cX10_dear 9 = .ok (.iconst 1, 1) := by decide +kernel
theorem dX10_dear_10 : decode cX10_dear 10 = .ok (.invokevirtual 151, 3) := by decide +kernel
theorem dX10_dear_13 : decode cX10_dear 13 = .ok (.ireturn, 1) := by decide +kernel
theorem dX10_dear_14 : decode cX10_dear 14 = .ok (.aload_n 0, 1) := by decide +kernel
theorem dX10_dear_15 : decode cX10_dear 15 = .ok (.getfield 88, 3) := by decide +kernel
theorem dX10_dear_18 : decode cX10_dear 18 = .ok (.iload_n 1, 1) := by decide +kernel
theorem dX10_dear_19 : decode cX10_dear 19 = .ok (.iconst 1, 1) := by decide +kernel
theorem dX10_dear_20 : decode cX10_dear 20 = .ok (.invokevirtual 333, 3) := by decide +kernel
theorem dX10_dear_23 : decode cX10_dear 23 = .ok (.aload_n 0, 1) := by decide +kernel
theorem dX10_dear_24 : decode cX10_dear 24 = .ok (.aload_n 0, 1) := by decide +kernel
theorem dX10_dear_25 : decode cX10_dear 25 = .ok (.getfield 88, 3) := by decide +kernel
theorem dX10_dear_28 : decode cX10_dear 28 = .ok (.getfield 337, 3) := by decide +kernel
theorem dX10_dear_31 : decode cX10_dear 31 = .ok (.iload_n 1, 1) := by decide +kernel
theorem dX10_dear_32 : decode cX10_dear 32 = .ok (.iaload, 1) := by decide +kernel
theorem dX10_dear_33 : decode cX10_dear 33 = .ok (.invokevirtual 324, 3) := by decide +kernel
theorem dX10_dear_36 : decode cX10_dear 36 = .ok (.ireturn, 1) := by decide +kernel
theorem dX10_askDear_0 : decode cX10_askDear 0 = .ok (.aload_n 0, 1) := by decide +kernel
theorem dX10_askDear_1 : decode cX10_askDear 1 = .ok (.iload_n 1, 1) := by decide +kernel
theorem dX10_askDear_2 : decode cX10_askDear 2 = .ok (.invokevirtual 330, 3) := by decide +kernel
theorem dX10_askDear_5 : decode cX10_askDear 5 = .ok (.ifCond .ne 9, 3) := by decide +kernel
theorem dX10_askDear_8 : decode cX10_askDear 8 = .ok (.aload_n 0, 1) := by decide +kernel
theorem dX10_askDear_9 : decode cX10_askDear 9 = .ok (.iconst 1, 1) := by decide +kernel
theorem dX10_askDear_10 : decode cX10_askDear 10 = .ok (.invokevirtual 151, 3) := by decide +kernel
theorem dX10_askDear_13 : decode cX10_askDear 13 = .ok (.ireturn, 1) := by decide +kernel
theorem dX10_askDear_14 : decode cX10_askDear 14 = .ok (.aload_n 0, 1) := by decide +kernel
theorem dX10_askDear_15 : decode cX10_askDear 15 = .ok (.getfield 88, 3) := by decide +kernel
theorem dX10_askDear_18 : decode cX10_askDear 18 = .ok (.iload_n 1, 1) := by decide +kernel
theorem dX10_askDear_19 : decode cX10_askDear 19 = .ok (.iconst 1, 1) := by decide +kernel
theorem dX10_askDear_20 : decode cX10_askDear 20 = .ok (.invokevirtual 333, 3) := by decide +kernel
theorem dX10_askDear_23 : decode cX10_askDear 23 = .ok (.aload_n 0, 1) := by decide +kernel
theorem dX10_askDear_24 : decode cX10_askDear 24 = .ok (.aload_n 0, 1) := by decide +kernel
theorem dX10_askDear_25 : decode cX10_askDear 25 = .ok (.getfield 88, 3) := by decide +kernel
theorem dX10_askDear_28 : decode cX10_askDear 28 = .ok (.getfield 340, 3) := by decide +kernel
theorem dX10_askDear_31 : decode cX10_askDear 31 = .ok (.iload_n 1, 1) := by decide +kernel
theorem dX10_askDear_32 : decode cX10_askDear 32 = .ok (.iaload, 1) := by decide +kernel
theorem dX10_askDear_33 : decode cX10_askDear 33 = .ok (.invokevirtual 324, 3) := by decide +kernel
theorem dX10_askDear_36 : decode cX10_askDear 36 = .ok (.ireturn, 1) := by decide +kernel
theorem dX10_fits_0 : decode cX10_fits 0 = .ok (.aload_n 0, 1) := by decide +kernel
theorem dX10_fits_1 : decode cX10_fits 1 = .ok (.iload_n 1, 1) := by decide +kernel
theorem dX10_fits_2 : decode cX10_fits 2 = .ok (.iload_n 2, 1) := by decide +kernel
theorem dX10_fits_3 : decode cX10_fits 3 = .ok (.invokevirtual 343, 3) := by decide +kernel
theorem dX10_fits_6 : decode cX10_fits 6 = .ok (.istore_n 3, 1) := by decide +kernel
theorem dX10_fits_7 : decode cX10_fits 7 = .ok (.iload_n 3, 1) := by decide +kernel
theorem dX10_fits_8 : decode cX10_fits 8 = .ok (.ifCond .ne 21, 3) := by decide +kernel
theorem dX10_fits_11 : decode cX10_fits 11 = .ok (.aload_n 0, 1) := by decide +kernel
theorem dX10_fits_12 : decode cX10_fits 12 = .ok (.aload_n 0, 1) := by decide +kernel
theorem dX10_fits_13 : decode cX10_fits 13 = .ok (.aload_n 0, 1) := by decide +kernel
theorem dX10_fits_14 : decode cX10_fits 14 = .ok (.getfield 11, 3) := by decide +kernel
theorem dX10_fits_17 : decode cX10_fits 17 = .ok (.iload_n 1, 1) := by decide +kernel
theorem dX10_fits_18 : decode cX10_fits 18 = .ok (.aaload, 1) := by decide +kernel
theorem dX10_fits_19 : decode cX10_fits 19 = .ok (.iload_n 2, 1) := by decide +kernel
theorem dX10_fits_20 : decode cX10_fits 20 = .ok (.invokevirtual 346, 3) := by decide +kernel
theorem dX10_fits_23 : decode cX10_fits 23 = .ok (.invokevirtual 199, 3) := by decide +kernel
theorem dX10_fits_26 : decode cX10_fits 26 = .ok (.goto 8, 3) := by decide +kernel
theorem dX10_fits_29 : decode cX10_fits 29 = .ok (.aload_n 0, 1) := by decide +kernel
theorem dX10_fits_30 : decode cX10_fits 30 = .ok (.iload_n 3, 1) := by decide +kernel
theorem dX10_fits_31 : decode cX10_fits 31 = .ok (.invokevirtual 151, 3) := by decide +kernel
theorem dX10_fits_34 : decode cX10_fits 34 = .ok (.ireturn, 1) := by decide +kernel
theorem dX10_likely_0 : decode cX10_likely 0 = .ok (.aload_n 0, 1) := by decide +kernel
theorem dX10_likely_1 : decode cX10_likely 1 = .ok (.iload_n 1, 1) := by decide +kernel
theorem dX10_likely_2 : decode cX10_likely 2 = .ok (.iload_n 2, 1) := by decide +kernel
theorem dX10_likely_3 : decode cX10_likely 3 = .ok (.invokevirtual 343, 3) := by decide +kernel
theorem dX10_likely_6 : decode cX10_likely 6 = .ok (.istore_n 3, 1) := by decide +kernel
theorem dX10_likely_7 : decode cX10_likely 7 = .ok (.iload_n 3, 1) := by decide +kernel
theorem dX10_likely_8 : decode cX10_likely 8 = .ok (.ifCond .eq 9, 3) := by decide +kernel
theorem dX10_likely_11 : decode cX10_likely 11 = .ok (.aload_n 0, 1) := by decide +kernel
theorem dX10_likely_12 : decode cX10_likely 12 = .ok (.iload_n 3, 1) := by decide +kernel
theorem dX10_likely_13 : decode cX10_likely 13 = .ok (.invokevirtual 151, 3) := by decide +kernel
theorem dX10_likely_16 : decode cX10_likely 16 = .ok (.ireturn, 1) := by decide +kernel
theorem dX10_likely_17 : decode cX10_likely 17 = .ok (.aload_n 0, 1) := by decide +kernel
theorem dX10_likely_18 : decode cX10_likely 18 = .ok (.aload_n 0, 1) := by decide +kernel
theorem dX10_likely_19 : decode cX10_likely 19 = .ok (.getfield 22, 3) := by decide +kernel
theorem dX10_likely_22 : decode cX10_likely 22 = .ok (.aload_n 0, 1) := by decide +kernel
theorem dX10_likely_23 : decode cX10_likely 23 = .ok (.aload_n 0, 1) := by decide +kernel
theorem dX10_likely_24 : decode cX10_likely 24 = .ok (.getfield 11, 3) := by decide +kernel
theorem dX10_likely_27 : decode cX10_likely 27 = .ok (.iload_n 1, 1) := by decide +kernel
theorem dX10_likely_28 : decode cX10_likely 28 = .ok (.aaload, 1) := by decide +kernel
theorem dX10_likely_29 : decode cX10_likely 29 = .ok (.iload_n 2, 1) := by decide +kernel
theorem dX10_likely_30 : decode cX10_likely 30 = .ok (.invokevirtual 346, 3) := by decide +kernel
theorem dX10_likely_33 : decode cX10_likely 33 = .ok (.invokevirtual 350, 3) := by decide +kernel
theorem dX10_likely_36 : decode cX10_likely 36 = .ok (.invokevirtual 324, 3) := by decide +kernel
theorem dX10_likely_39 : decode cX10_likely 39 = .ok (.ireturn, 1) := by decide +kernel
theorem dX10_oddsThat_0 : decode cX10_oddsThat 0 = .ok (.aload_n 0, 1) := by decide +kernel
theorem dX10_oddsThat_1 : decode cX10_oddsThat 1 = .ok (.getfield 22, 3) := by decide +kernel
theorem dX10_oddsThat_4 : decode cX10_oddsThat 4 = .ok (.iload_n 3, 1) := by decide +kernel
theorem dX10_oddsThat_5 : decode cX10_oddsThat 5 = .ok (.invokevirtual 250, 3) := by decide +kernel
theorem dX10_oddsThat_8 : decode cX10_oddsThat 8 = .ok (.ifCond .ne 9, 3) := by decide +kernel
theorem dX10_oddsThat_11 : decode cX10_oddsThat 11 = .ok (.aload_n 0, 1) := by decide +kernel
theorem dX10_oddsThat_12 : decode cX10_oddsThat 12 = .ok (.iconst 1, 1) := by decide +kernel
theorem dX10_oddsThat_13 : decode cX10_oddsThat 13 = .ok (.invokevirtual 132, 3) := by decide +kernel
theorem dX10_oddsThat_16 : decode cX10_oddsThat 16 = .ok (.ireturn, 1) := by decide +kernel
theorem dX10_oddsThat_17 : decode cX10_oddsThat 17 = .ok (.aload_n 0, 1) := by decide +kernel
theorem dX10_oddsThat_18 : decode cX10_oddsThat 18 = .ok (.iload_n 1, 1) := by decide +kernel
theorem dX10_oddsThat_19 : decode cX10_oddsThat 19 = .ok (.iload_n 2, 1) := by decide +kernel
theorem dX10_oddsThat_20 : decode cX10_oddsThat 20 = .ok (.invokevirtual 343, 3) := by decide +kernel
theorem dX10_oddsThat_23 : decode cX10_oddsThat 23 = .ok (.istore 4, 2) := by decide +kernel
theorem dX10_oddsThat_25 : decode cX10_oddsThat 25 = .ok (.iload 4, 2) := by decide +kernel
theorem dX10_oddsThat_27 : decode cX10_oddsThat 27 = .ok (.ifCond .eq 10, 3) := by decide +kernel
theorem dX10_oddsThat_30 : decode cX10_oddsThat 30 = .ok (.aload_n 0, 1) := by decide +kernel
theorem dX10_oddsThat_31 : decode cX10_oddsThat 31 = .ok (.iload 4, 2) := by decide +kernel
theorem dX10_oddsThat_33 : decode cX10_oddsThat 33 = .ok (.invokevirtual 132, 3) := by decide +kernel
theorem dX10_oddsThat_36 : decode cX10_oddsThat 36 = .ok (.ireturn, 1) := by decide +kernel
theorem dX10_oddsThat_37 : decode cX10_oddsThat 37 = .ok (.aload_n 0, 1) := by decide +kernel
theorem dX10_oddsThat_38 : decode cX10_oddsThat 38 = .ok (.aload_n 0, 1) := by decide +kernel
theorem dX10_oddsThat_39 : decode cX10_oddsThat 39 = .ok (.getfield 11, 3) := by decide +kernel
theorem dX10_oddsThat_42 : decode cX10_oddsThat 42 = .ok (.iload_n 1, 1) := by decide +kernel
theorem dX10_oddsThat_43 : decode cX10_oddsThat 43 = .ok (.aaload, 1) := by decide +kernel
theorem dX10_oddsThat_44 : decode cX10_oddsThat 44 = .ok (.iload_n 2, 1) := by decide +kernel
theorem dX10_oddsThat_45 : decode cX10_oddsThat 45 = .ok (.invokevirtual 346, 3) := by decide +kernel
theorem dX10_oddsThat_48 : decode cX10_oddsThat 48 = .ok (.istore 5, 2) := by decide +kernel
theorem dX10_oddsThat_50 : decode cX10_oddsThat 50 = .ok (.iload 5, 2) := by decide +kernel
theorem dX10_oddsThat_52 : decode cX10_oddsThat 52 = .ok (.ifCond .ne 10, 3) := by decide +kernel
theorem dX10_oddsThat_55 : decode cX10_oddsThat 55 = .ok (.aload_n 0, 1) := by decide +kernel
theorem dX10_oddsThat_56 : decode cX10_oddsThat 56 = .ok (.bipush 6, 2) := by decide +kernel
theorem dX10_oddsThat_58 : decode cX10_oddsThat 58 = .ok (.invokevirtual 132, 3) := by decide +kernel
theorem dX10_oddsThat_61 : decode cX10_oddsThat 61 = .ok (.ireturn, 1) := by decide +kernel
theorem dX10_oddsThat_62 : decode cX10_oddsThat 62 = .ok (.aload_n 0, 1) := by decide +kernel
theorem dX10_oddsThat_63 : decode cX10_oddsThat 63 = .ok (.getfield 102, 3) := by decide +kernel
theorem dX10_oddsThat_66 : decode cX10_oddsThat 66 = .ok (.aload_n 0, 1) := by decide +kernel
theorem dX10_oddsThat_67 : decode cX10_oddsThat 67 = .ok (.getfield 22, 3) := by decide +kernel
theorem dX10_oddsThat_70 : decode cX10_oddsThat 70 = .ok (.iload 5, 2) := by decide +kernel
theorem dX10_oddsThat_72 : decode cX10_oddsThat 72 = .ok (.iconst 1, 1) := by decide +kernel
theorem dX10_oddsThat_73 : decode cX10_oddsThat 73 = .ok (.iload_n 3, 1) := by decide +kernel
theorem dX10_oddsThat_74 : decode cX10_oddsThat 74 = .ok (.ishl, 1) := by decide +kernel
theorem dX10_oddsThat_75 : decode cX10_oddsThat 75 = .ok (.iand, 1) := by decide +kernel
theorem dX10_oddsThat_76 : decode cX10_oddsThat 76 = .ok (.invokevirtual 353, 3) := by decide +kernel
theorem dX10_oddsThat_79 : decode cX10_oddsThat 79 = .ok (.i2l, 1) := by decide +kernel
theorem dX10_oddsThat_80 : decode cX10_oddsThat 80 = .ok (.aload_n 0, 1) := by decide +kernel
theorem dX10_oddsThat_81 : decode cX10_oddsThat 81 = .ok (.getfield 22, 3) := by decide +kernel
theorem dX10_oddsThat_84 : decode cX10_oddsThat 84 = .ok (.iload 5, 2) := by decide +kernel
theorem dX10_oddsThat_86 : decode cX10_oddsThat 86 = .ok (.invokevirtual 353, 3) := by decide +kernel
theorem dX10_oddsThat_89 : decode cX10_oddsThat 89 = .ok (.i2l, 1) := by decide +kernel
theorem dX10_oddsThat_90 : decode cX10_oddsThat 90 = .ok (.invokevirtual 356, 3) := by decide +kernel
theorem dX10_oddsThat_93 : decode cX10_oddsThat 93 = .ok (.aload_n 0, 1) := by decide +kernel
theorem dX10_oddsThat_94 : decode cX10_oddsThat 94 = .ok (.invokevirtual 139, 3) := by decide +kernel
theorem dX10_oddsThat_97 : decode cX10_oddsThat 97 = .ok (.ireturn, 1) := by decide +kernel
theorem dX10_next_0 : decode cX10_next 0 = .ok (.aload_n 0, 1) := by decide +kernel
theorem dX10_next_1 : decode cX10_next 1 = .ok (.iload_n 1, 1) := by decide +kernel
theorem dX10_next_2 : decode cX10_next 2 = .ok (.iload_n 2, 1) := by decide +kernel
theorem dX10_next_3 : decode cX10_next 3 = .ok (.invokevirtual 343, 3) := by decide +kernel
theorem dX10_next_6 : decode cX10_next 6 = .ok (.istore_n 3, 1) := by decide +kernel
theorem dX10_next_7 : decode cX10_next 7 = .ok (.iload_n 3, 1) := by decide +kernel
theorem dX10_next_8 : decode cX10_next 8 = .ok (.ifCond .eq 9, 3) := by decide +kernel
theorem dX10_next_11 : decode cX10_next 11 = .ok (.aload_n 0, 1) := by decide +kernel
theorem dX10_next_12 : decode cX10_next 12 = .ok (.iload_n 3, 1) := by decide +kernel
theorem dX10_next_13 : decode cX10_next 13 = .ok (.invokevirtual 151, 3) := by decide +kernel
theorem dX10_next_16 : decode cX10_next 16 = .ok (.ireturn, 1) := by decide +kernel
theorem dX10_next_17 : decode cX10_next 17 = .ok (.aload_n 0, 1) := by decide +kernel
theorem dX10_next_18 : decode cX10_next 18 = .ok (.aload_n 0, 1) := by decide +kernel
theorem dX10_next_19 : decode cX10_next 19 = .ok (.aload_n 0, 1) := by decide +kernel
theorem dX10_next_20 : decode cX10_next 20 = .ok (.aload_n 0, 1) := by decide +kernel
theorem dX10_next_21 : decode cX10_next 21 = .ok (.getfield 11, 3) := by decide +kernel
theorem dX10_next_24 : decode cX10_next 24 = .ok (.iload_n 1, 1) := by decide +kernel
theorem dX10_next_25 : decode cX10_next 25 = .ok (.aaload, 1) := by decide +kernel
theorem dX10_next_26 : decode cX10_next 26 = .ok (.iload_n 2, 1) := by decide +kernel
theorem dX10_next_27 : decode cX10_next 27 = .ok (.invokevirtual 346, 3) := by decide +kernel
theorem dX10_next_30 : decode cX10_next 30 = .ok (.invokevirtual 360, 3) := by decide +kernel
theorem dX10_next_33 : decode cX10_next 33 = .ok (.invokevirtual 324, 3) := by decide +kernel
theorem dX10_next_36 : decode cX10_next 36 = .ok (.ireturn, 1) := by decide +kernel
theorem dX10_gather_0 : decode cX10_gather 0 = .ok (.aload_n 0, 1) := by decide +kernel
theorem dX10_gather_1 : decode cX10_gather 1 = .ok (.getfield 22, 3) := by decide +kernel
theorem dX10_gather_4 : decode cX10_gather 4 = .ok (.iload_n 1, 1) := by decide +kernel
theorem dX10_gather_5 : decode cX10_gather 5 = .ok (.invokevirtual 271, 3) := by decide +kernel
theorem dX10_gather_8 : decode cX10_gather 8 = .ok (.ifCond .eq 13, 3) := by decide +kernel
theorem dX10_gather_11 : decode cX10_gather 11 = .ok (.iload_n 2, 1) := by decide +kernel
theorem dX10_gather_12 : decode cX10_gather 12 = .ok (.iconst 0, 1) := by decide +kernel
theorem dX10_gather_13 : decode cX10_gather 13 = .ok (.bipush 12, 2) := by decide +kernel
theorem dX10_gather_15 : decode cX10_gather 15 = .ok (.invokestatic 128, 3) := by decide +kernel
theorem dX10_gather_18 : decode cX10_gather 18 = .ok (.ifCond .ne 9, 3) := by decide +kernel
theorem dX10_gather_21 : decode cX10_gather 21 = .ok (.aload_n 0, 1) := by decide +kernel
theorem dX10_gather_22 : decode cX10_gather 22 = .ok (.iconst 1, 1) := by decide +kernel
theorem dX10_gather_23 : decode cX10_gather 23 = .ok (.invokevirtual 151, 3) := by decide +kernel
theorem dX10_gather_26 : decode cX10_gather 26 = .ok (.ireturn, 1) := by decide +kernel
theorem dX10_gather_27 : decode cX10_gather 27 = .ok (.aload_n 0, 1) := by decide +kernel
theorem dX10_gather_28 : decode cX10_gather 28 = .ok (.aload_n 0, 1) := by decide +kernel
theorem dX10_gather_29 : decode cX10_gather 29 = .ok (.getfield 22, 3) := by decide +kernel
theorem dX10_gather_32 : decode cX10_gather 32 = .ok (.aload_n 0, 1) := by decide +kernel
theorem dX10_gather_33 : decode cX10_gather 33 = .ok (.getfield 22, 3) := by decide +kernel
theorem dX10_gather_36 : decode cX10_gather 36 = .ok (.getfield 274, 3) := by decide +kernel
theorem dX10_gather_39 : decode cX10_gather 39 = .ok (.iload_n 1, 1) := by decide +kernel
theorem dX10_gather_40 : decode cX10_gather 40 = .ok (.iaload, 1) := by decide +kernel
theorem dX10_gather_41 : decode cX10_gather 41 = .ok (.iload_n 2, 1) := by decide +kernel
theorem dX10_gather_42 : decode cX10_gather 42 = .ok (.invokevirtual 363, 3) := by decide +kernel
theorem dX10_gather_45 : decode cX10_gather 45 = .ok (.invokevirtual 199, 3) := by decide +kernel
theorem dX10_gather_48 : decode cX10_gather 48 = .ok (.ireturn, 1) := by decide +kernel
theorem dX10_brisk_0 : decode cX10_brisk 0 = .ok (.aload_n 0, 1) := by decide +kernel
theorem dX10_brisk_1 : decode cX10_brisk 1 = .ok (.getfield 22, 3) := by decide +kernel
theorem dX10_brisk_4 : decode cX10_brisk 4 = .ok (.iload_n 1, 1) := by decide +kernel
theorem dX10_brisk_5 : decode cX10_brisk 5 = .ok (.invokevirtual 271, 3) := by decide +kernel
theorem dX10_brisk_8 : decode cX10_brisk 8 = .ok (.ifCond .eq 13, 3) := by decide +kernel
theorem dX10_brisk_11 : decode cX10_brisk 11 = .ok (.iload_n 2, 1) := by decide +kernel
theorem dX10_brisk_12 : decode cX10_brisk 12 = .ok (.iconst 0, 1) := by decide +kernel
theorem dX10_brisk_13 : decode cX10_brisk 13 = .ok (.bipush 12, 2) := by decide +kernel
theorem dX10_brisk_15 : decode cX10_brisk 15 = .ok (.invokestatic 128, 3) := by decide +kernel
theorem dX10_brisk_18 : decode cX10_brisk 18 = .ok (.ifCond .ne 9, 3) := by decide +kernel
theorem dX10_brisk_21 : decode cX10_brisk 21 = .ok (.aload_n 0, 1) := by decide +kernel
theorem dX10_brisk_22 : decode cX10_brisk 22 = .ok (.iconst 1, 1) := by decide +kernel
theorem dX10_brisk_23 : decode cX10_brisk 23 = .ok (.invokevirtual 151, 3) := by decide +kernel
theorem dX10_brisk_26 : decode cX10_brisk 26 = .ok (.ireturn, 1) := by decide +kernel
theorem dX10_brisk_27 : decode cX10_brisk 27 = .ok (.aload_n 0, 1) := by decide +kernel
theorem dX10_brisk_28 : decode cX10_brisk 28 = .ok (.getfield 22, 3) := by decide +kernel
theorem dX10_brisk_31 : decode cX10_brisk 31 = .ok (.getfield 274, 3) := by decide +kernel
theorem dX10_brisk_34 : decode cX10_brisk 34 = .ok (.iload_n 1, 1) := by decide +kernel
theorem dX10_brisk_35 : decode cX10_brisk 35 = .ok (.iaload, 1) := by decide +kernel
theorem dX10_brisk_36 : decode cX10_brisk 36 = .ok (.istore_n 3, 1) := by decide +kernel
theorem dX10_brisk_37 : decode cX10_brisk 37 = .ok (.aload_n 0, 1) := by decide +kernel
theorem dX10_brisk_38 : decode cX10_brisk 38 = .ok (.getfield 22, 3) := by decide +kernel
theorem dX10_brisk_41 : decode cX10_brisk 41 = .ok (.iload_n 3, 1) := by decide +kernel
theorem dX10_brisk_42 : decode cX10_brisk 42 = .ok (.iload_n 2, 1) := by decide +kernel
theorem dX10_brisk_43 : decode cX10_brisk 43 = .ok (.invokevirtual 363, 3) := by decide +kernel
theorem dX10_brisk_46 : decode cX10_brisk 46 = .ok (.istore 4, 2) := by decide +kernel
theorem dX10_brisk_48 : decode cX10_brisk 48 = .ok (.iconst 0, 1) := by decide +kernel
theorem dX10_brisk_49 : decode cX10_brisk 49 = .ok (.istore 5, 2) := by decide +kernel
theorem dX10_brisk_51 : decode cX10_brisk 51 = .ok (.iload 5, 2) := by decide +kernel
theorem dX10_brisk_53 : decode cX10_brisk 53 = .ok (.iload_n 2, 1) := by decide +kernel
theorem dX10_brisk_54 : decode cX10_brisk 54 = .ok (.if_icmp .ge 24, 3) := by decide +kernel
theorem dX10_brisk_57 : decode cX10_brisk 57 = .ok (.aload_n 0, 1) := by decide +kernel
theorem dX10_brisk_58 : decode cX10_brisk 58 = .ok (.getfield 22, 3) := by decide +kernel
theorem dX10_brisk_61 : decode cX10_brisk 61 = .ok (.iload_n 3, 1) := by decide +kernel
theorem dX10_brisk_62 : decode cX10_brisk 62 = .ok (.iload 5, 2) := by decide +kernel
theorem dX10_brisk_64 : decode cX10_brisk 64 = .ok (.invokevirtual 363, 3) := by decide +kernel
theorem dX10_brisk_67 : decode cX10_brisk 67 = .ok (.iload 4, 2) := by decide +kernel
theorem dX10_brisk_69 : decode cX10_brisk 69 = .ok (.if_icmp .ge 9, 3) := by decide +kernel
theorem dX10_brisk_72 : decode cX10_brisk 72 = .ok (.iinc 5 1, 3) := by decide +kernel
theorem dX10_brisk_75 : decode cX10_brisk 75 = .ok (.goto (-24), 3) := by decide +kernel
theorem dX10_brisk_78 : decode cX10_brisk 78 = .ok (.aload_n 0, 1) := by decide +kernel
theorem dX10_brisk_79 : decode cX10_brisk 79 = .ok (.iload 5, 2) := by decide +kernel
theorem dX10_brisk_81 : decode cX10_brisk 81 = .ok (.invokevirtual 199, 3) := by decide +kernel
theorem dX10_brisk_84 : decode cX10_brisk 84 = .ok (.ireturn, 1) := by decide +kernel
theorem dX10_game_0 : decode cX10_game 0 = .ok (.iload_n 1, 1) := by decide +kernel
theorem dX10_game_1 : decode cX10_game 1 = .ok (.iconst 0, 1) := by decide +kernel
theorem dX10_game_2 : decode cX10_game 2 = .ok (.iconst 4, 1) := by decide +kernel
theorem dX10_game_3 : decode cX10_game 3 = .ok (.invokestatic 128, 3) := by decide +kernel
theorem dX10_game_6 : decode cX10_game 6 = .ok (.ifCond .ne 9, 3) := by decide +kernel
theorem dX10_game_9 : decode cX10_game 9 = .ok (.aload_n 0, 1) := by decide +kernel
theorem dX10_game_10 : decode cX10_game 10 = .ok (.iconst 1, 1) := by decide +kernel
theorem dX10_game_11 : decode cX10_game 11 = .ok (.invokevirtual 151, 3) := by decide +kernel
theorem dX10_game_14 : decode cX10_game 14 = .ok (.ireturn, 1) := by decide +kernel
theorem dX10_game_15 : decode cX10_game 15 = .ok (.aload_n 0, 1) := by decide +kernel
theorem dX10_game_16 : decode cX10_game 16 = .ok (.getfield 95, 3) := by decide +kernel
theorem dX10_game_19 : decode cX10_game 19 = .ok (.iload_n 1, 1) := by decide +kernel
theorem dX10_game_20 : decode cX10_game 20 = .ok (.invokevirtual 366, 3) := by decide +kernel
theorem dX10_game_23 : decode cX10_game 23 = .ok (.aload_n 0, 1) := by decide +kernel
theorem dX10_game_24 : decode cX10_game 24 = .ok (.aload_n 0, 1) := by decide +kernel
theorem dX10_game_25 : decode cX10_game 25 = .ok (.getfield 95, 3) := by decide +kernel
theorem dX10_game_28 : decode cX10_game 28 = .ok (.iload_n 1, 1) := by decide +kernel
theorem dX10_game_29 : decode cX10_game 29 = .ok (.invokevirtual 318, 3) := by decide +kernel
theorem dX10_game_32 : decode cX10_game 32 = .ok (.invokevirtual 199, 3) := by decide +kernel
theorem dX10_game_35 : decode cX10_game 35 = .ok (.ireturn, 1) := by decide +kernel
theorem dX10_moveOf_0 : decode cX10_moveOf 0 = .ok (.iload_n 1, 1) := by decide +kernel
theorem dX10_moveOf_1 : decode cX10_moveOf 1 = .ok (.iconst 1, 1) := by decide +kernel
theorem dX10_moveOf_2 : decode cX10_moveOf 2 = .ok (.iconst 4, 1) := by decide +kernel
theorem dX10_moveOf_3 : decode cX10_moveOf 3 = .ok (.invokestatic 128, 3) := by decide +kernel
theorem dX10_moveOf_6 : decode cX10_moveOf 6 = .ok (.ifCond .ne 9, 3) := by decide +kernel
theorem dX10_moveOf_9 : decode cX10_moveOf 9 = .ok (.aload_n 0, 1) := by decide +kernel
theorem dX10_moveOf_10 : decode cX10_moveOf 10 = .ok (.iconst 1, 1) := by decide +kernel
theorem dX10_moveOf_11 : decode cX10_moveOf 11 = .ok (.invokevirtual 151, 3) := by decide +kernel
theorem dX10_moveOf_14 : decode cX10_moveOf 14 = .ok (.ireturn, 1) := by decide +kernel
theorem dX10_moveOf_15 : decode cX10_moveOf 15 = .ok (.aload_n 0, 1) := by decide +kernel
theorem dX10_moveOf_16 : decode cX10_moveOf 16 = .ok (.getfield 95, 3) := by decide +kernel
theorem dX10_moveOf_19 : decode cX10_moveOf 19 = .ok (.iload_n 1, 1) := by decide +kernel
theorem dX10_moveOf_20 : decode cX10_moveOf 20 = .ok (.invokevirtual 366, 3) := by decide +kernel
theorem dX10_moveOf_23 : decode cX10_moveOf 23 = .ok (.aload_n 0, 1) := by decide +kernel
theorem dX10_moveOf_24 : decode cX10_moveOf 24 = .ok (.aload_n 0, 1) := by decide +kernel
theorem dX10_moveOf_25 : decode cX10_moveOf 25 = .ok (.getfield 95, 3) := by decide +kernel
theorem dX10_moveOf_28 : decode cX10_moveOf 28 = .ok (.iload_n 1, 1) := by decide +kernel
theorem dX10_moveOf_29 : decode cX10_moveOf 29 = .ok (.invokevirtual 369, 3) := by decide +kernel
theorem dX10_moveOf_32 : decode cX10_moveOf 32 = .ok (.invokevirtual 324, 3) := by decide +kernel
theorem dX10_moveOf_35 : decode cX10_moveOf 35 = .ok (.ireturn, 1) := by decide +kernel
theorem dX10_blind_0 : decode cX10_blind 0 = .ok (.aload_n 0, 1) := by decide +kernel
theorem dX10_blind_1 : decode cX10_blind 1 = .ok (.getfield 22, 3) := by decide +kernel
theorem dX10_blind_4 : decode cX10_blind 4 = .ok (.iload_n 1, 1) := by decide +kernel
theorem dX10_blind_5 : decode cX10_blind 5 = .ok (.invokevirtual 240, 3) := by decide +kernel
theorem dX10_blind_8 : decode cX10_blind 8 = .ok (.ifCond .eq 21, 3) := by decide +kernel
theorem dX10_blind_11 : decode cX10_blind 11 = .ok (.iload_n 2, 1) := by decide +kernel
theorem dX10_blind_12 : decode cX10_blind 12 = .ok (.iconst 0, 1) := by decide +kernel
theorem dX10_blind_13 : decode cX10_blind 13 = .ok (.iconst 4, 1) := by decide +kernel
theorem dX10_blind_14 : decode cX10_blind 14 = .ok (.invokestatic 128, 3) := by decide +kernel
theorem dX10_blind_17 : decode cX10_blind 17 = .ok (.ifCond .eq 12, 3) := by decide +kernel
theorem dX10_blind_20 : decode cX10_blind 20 = .ok (.iload_n 3, 1) := by decide +kernel
theorem dX10_blind_21 : decode cX10_blind 21 = .ok (.iconst 0, 1) := by decide +kernel
theorem dX10_blind_22 : decode cX10_blind 22 = .ok (.iconst 4, 1) := by decide +kernel
theorem dX10_blind_23 : decode cX10_blind 23 = .ok (.invokestatic 128, 3) := by decide +kernel
theorem dX10_blind_26 : decode cX10_blind 26 = .ok (.ifCond .ne 9, 3) := by decide +kernel
theorem dX10_blind_29 : decode cX10_blind 29 = .ok (.aload_n 0, 1) := by decide +kernel
theorem dX10_blind_30 : decode cX10_blind 30 = .ok (.iconst 1, 1) := by decide +kernel
theorem dX10_blind_31 : decode cX10_blind 31 = .ok (.invokevirtual 132, 3) := by decide +kernel
theorem dX10_blind_34 : decode cX10_blind 34 = .ok (.ireturn, 1) := by decide +kernel
theorem dX10_blind_35 : decode cX10_blind 35 = .ok (.aload_n 0, 1) := by decide +kernel
theorem dX10_blind_36 : decode cX10_blind 36 = .ok (.getfield 22, 3) := by decide +kernel
theorem dX10_blind_39 : decode cX10_blind 39 = .ok (.getfield 243, 3) := by decide +kernel
theorem dX10_blind_42 : decode cX10_blind 42 = .ok (.iload_n 1, 1) := by decide +kernel
theorem dX10_blind_43 : decode cX10_blind 43 = .ok (.iaload, 1) := by decide +kernel
theorem dX10_blind_44 : decode cX10_blind 44 = .ok (.istore 4, 2) := by decide +kernel
theorem dX10_blind_46 : decode cX10_blind 46 = .ok (.aload_n 0, 1) := by decide +kernel
theorem dX10_blind_47 : decode cX10_blind 47 = .ok (.getfield 22, 3) := by decide +kernel
theorem dX10_blind_50 : decode cX10_blind 50 = .ok (.getfield 247, 3) := by decide +kernel
theorem dX10_blind_53 : decode cX10_blind 53 = .ok (.iload_n 1, 1) := by decide +kernel
theorem dX10_blind_54 : decode cX10_blind 54 = .ok (.iaload, 1) := by decide +kernel
theorem dX10_blind_55 : decode cX10_blind 55 = .ok (.istore 5, 2) := by decide +kernel
theorem dX10_blind_57 : decode cX10_blind 57 = .ok (.iload 4, 2) := by decide +kernel
theorem dX10_blind_59 : decode cX10_blind 59 = .ok (.iload 5, 2) := by decide +kernel
theorem dX10_blind_61 : decode cX10_blind 61 = .ok (.iadd, 1) := by decide +kernel
theorem dX10_blind_62 : decode cX10_blind 62 = .ok (.iload_n 2, 1) := by decide +kernel
theorem dX10_blind_63 : decode cX10_blind 63 = .ok (.if_icmp .ge 10, 3) := by decide +kernel
theorem dX10_blind_66 : decode cX10_blind 66 = .ok (.aload_n 0, 1) := by decide +kernel
theorem dX10_blind_67 : decode cX10_blind 67 = .ok (.bipush 6, 2) := by decide +kernel
theorem dX10_blind_69 : decode cX10_blind 69 = .ok (.invokevirtual 132, 3) := by decide +kernel
theorem dX10_blind_72 : decode cX10_blind 72 = .ok (.ireturn, 1) := by decide +kernel
theorem dX10_blind_73 : decode cX10_blind 73 = .ok (.lconst 0, 1) := by decide +kernel
theorem dX10_blind_74 : decode cX10_blind 74 = .ok (.lstore 6, 2) := by decide +kernel
theorem dX10_blind_76 : decode cX10_blind 76 = .ok (.iload_n 3, 1) := by decide +kernel
theorem dX10_blind_77 : decode cX10_blind 77 = .ok (.istore 8, 2) := by decide +kernel
theorem dX10_blind_79 : decode cX10_blind 79 = .ok (.iload 8, 2) := by decide +kernel
theorem dX10_blind_81 : decode cX10_blind 81 = .ok (.iload_n 2, 1) := by decide +kernel
theorem dX10_blind_82 : decode cX10_blind 82 = .ok (.if_icmp .gt 31, 3) := by decide +kernel
theorem dX10_blind_85 : decode cX10_blind 85 = .ok (.lload 6, 2) := by decide +kernel
theorem dX10_blind_87 : decode cX10_blind 87 = .ok (.iload 4, 2) := by decide +kernel
theorem dX10_blind_89 : decode cX10_blind 89 = .ok (.iload 8, 2) := by decide +kernel
theorem dX10_blind_91 : decode cX10_blind 91 = .ok (.invokestatic 372, 3) := by decide +kernel
theorem dX10_blind_94 : decode cX10_blind 94 = .ok (.iload 5, 2) := by decide +kernel
theorem dX10_blind_96 : decode cX10_blind 96 = .ok (.iload_n 2, 1) := by decide +kernel
theorem dX10_blind_97 : decode cX10_blind 97 = .ok (.iload 8, 2) := by decide +kernel
theorem dX10_blind_99 : decode cX10_blind 99 = .ok (.isub, 1) := by decide +kernel
theorem dX10_blind_100 : decode cX10_blind 100 = .ok (.invokestatic 372, 3) := by decide +kernel
theorem dX10_blind_103 : decode cX10_blind 103 = .ok (.lmul, 1) := by decide +kernel
theorem dX10_blind_104 : decode cX10_blind 104 = .ok (.ladd, 1) := by decide +kernel
theorem dX10_blind_105 : decode cX10_blind 105 = .ok (.lstore 6, 2) := by decide +kernel
theorem dX10_blind_107 : decode cX10_blind 107 = .ok (.iinc 8 1, 3) := by decide +kernel
theorem dX10_blind_110 : decode cX10_blind 110 = .ok (.goto (-31), 3) := by decide +kernel
theorem dX10_blind_113 : decode cX10_blind 113 = .ok (.aload_n 0, 1) := by decide +kernel
theorem dX10_blind_114 : decode cX10_blind 114 = .ok (.getfield 102, 3) := by decide +kernel
theorem dX10_blind_117 : decode cX10_blind 117 = .ok (.lload 6, 2) := by decide +kernel
theorem dX10_blind_119 : decode cX10_blind 119 = .ok (.iload 4, 2) := by decide +kernel
theorem dX10_blind_121 : decode cX10_blind 121 = .ok (.iload 5, 2) := by decide +kernel
theorem dX10_blind_123 : decode cX10_blind 123 = .ok (.iadd, 1) := by decide +kernel
theorem dX10_blind_124 : decode cX10_blind 124 = .ok (.iload_n 2, 1) := by decide +kernel
theorem dX10_blind_125 : decode cX10_blind 125 = .ok (.invokestatic 372, 3) := by decide +kernel
theorem dX10_blind_128 : decode cX10_blind 128 = .ok (.invokevirtual 356, 3) := by decide +kernel
theorem dX10_blind_131 : decode cX10_blind 131 = .ok (.aload_n 0, 1) := by decide +kernel
theorem dX10_blind_132 : decode cX10_blind 132 = .ok (.invokevirtual 139, 3) := by decide +kernel
theorem dX10_blind_135 : decode cX10_blind 135 = .ok (.ireturn, 1) := by decide +kernel
theorem dX10_share_0 : decode cX10_share 0 = .ok (.aload_n 0, 1) := by decide +kernel
theorem dX10_share_1 : decode cX10_share 1 = .ok (.getfield 22, 3) := by decide +kernel
theorem dX10_share_4 : decode cX10_share 4 = .ok (.iload_n 1, 1) := by decide +kernel
theorem dX10_share_5 : decode cX10_share 5 = .ok (.invokevirtual 271, 3) := by decide +kernel
theorem dX10_share_8 : decode cX10_share 8 = .ok (.ifCond .ne 9, 3) := by decide +kernel
theorem dX10_share_11 : decode cX10_share 11 = .ok (.aload_n 0, 1) := by decide +kernel
theorem dX10_share_12 : decode cX10_share 12 = .ok (.iconst 1, 1) := by decide +kernel
theorem dX10_share_13 : decode cX10_share 13 = .ok (.invokevirtual 132, 3) := by decide +kernel
theorem dX10_share_16 : decode cX10_share 16 = .ok (.ireturn, 1) := by decide +kernel
theorem dX10_share_17 : decode cX10_share 17 = .ok (.aload_n 0, 1) := by decide +kernel
theorem dX10_share_18 : decode cX10_share 18 = .ok (.getfield 22, 3) := by decide +kernel
theorem dX10_share_21 : decode cX10_share 21 = .ok (.invokevirtual 234, 3) := by decide +kernel
theorem dX10_share_24 : decode cX10_share 24 = .ok (.istore_n 2, 1) := by decide +kernel
theorem dX10_share_25 : decode cX10_share 25 = .ok (.iload_n 2, 1) := by decide +kernel
theorem dX10_share_26 : decode cX10_share 26 = .ok (.ifCond .ne 10, 3) := by decide +kernel
theorem dX10_share_29 : decode cX10_share 29 = .ok (.aload_n 0, 1) := by decide +kernel
theorem dX10_share_30 : decode cX10_share 30 = .ok (.bipush 6, 2) := by decide +kernel
theorem dX10_share_32 : decode cX10_share 32 = .ok (.invokevirtual 132, 3) := by decide +kernel
theorem dX10_share_35 : decode cX10_share 35 = .ok (.ireturn, 1) := by decide +kernel
theorem dX10_share_36 : decode cX10_share 36 = .ok (.aload_n 0, 1) := by decide +kernel
theorem dX10_share_37 : decode cX10_share 37 = .ok (.getfield 102, 3) := by decide +kernel
theorem dX10_share_40 : decode cX10_share 40 = .ok (.aload_n 0, 1) := by decide +kernel
theorem dX10_share_41 : decode cX10_share 41 = .ok (.getfield 22, 3) := by decide +kernel
theorem dX10_share_44 : decode cX10_share 44 = .ok (.getfield 277, 3) := by decide +kernel
theorem dX10_share_47 : decode cX10_share 47 = .ok (.iload_n 1, 1) := by decide +kernel
theorem dX10_share_48 : decode cX10_share 48 = .ok (.iaload, 1) := by decide +kernel
theorem dX10_share_49 : decode cX10_share 49 = .ok (.i2l, 1) := by decide +kernel
theorem dX10_share_50 : decode cX10_share 50 = .ok (.iload_n 2, 1) := by decide +kernel
theorem dX10_share_51 : decode cX10_share 51 = .ok (.i2l, 1) := by decide +kernel
theorem dX10_share_52 : decode cX10_share 52 = .ok (.invokevirtual 356, 3) := by decide +kernel
theorem dX10_share_55 : decode cX10_share 55 = .ok (.aload_n 0, 1) := by decide +kernel
theorem dX10_share_56 : decode cX10_share 56 = .ok (.invokevirtual 139, 3) := by decide +kernel
theorem dX10_share_59 : decode cX10_share 59 = .ok (.ireturn, 1) := by decide +kernel
theorem dX10_copyBeds_0 : decode cX10_copyBeds 0 = .ok (.iload_n 1, 1) := by decide +kernel
theorem dX10_copyBeds_1 : decode cX10_copyBeds 1 = .ok (.invokestatic 124, 3) := by decide +kernel
theorem dX10_copyBeds_4 : decode cX10_copyBeds 4 = .ok (.ifCond .ne 9, 3) := by decide +kernel
theorem dX10_copyBeds_7 : decode cX10_copyBeds 7 = .ok (.aload_n 0, 1) := by decide +kernel
theorem dX10_copyBeds_8 : decode cX10_copyBeds 8 = .ok (.iconst 1, 1) := by decide +kernel
theorem dX10_copyBeds_9 : decode cX10_copyBeds 9 = .ok (.invokevirtual 151, 3) := by decide +kernel
theorem dX10_copyBeds_12 : decode cX10_copyBeds 12 = .ok (.ireturn, 1) := by decide +kernel
theorem dX10_copyBeds_13 : decode cX10_copyBeds 13 = .ok (.aload_n 0, 1) := by decide +kernel
theorem dX10_copyBeds_14 : decode cX10_copyBeds 14 = .ok (.getfield 11, 3) := by decide +kernel
theorem dX10_copyBeds_17 : decode cX10_copyBeds 17 = .ok (.iload_n 1, 1) := by decide +kernel
theorem dX10_copyBeds_18 : decode cX10_copyBeds 18 = .ok (.aaload, 1) := by decide +kernel
theorem dX10_copyBeds_19 : decode cX10_copyBeds 19 = .ok (.getfield 159, 3) := by decide +kernel
theorem dX10_copyBeds_22 : decode cX10_copyBeds 22 = .ok (.ifCond .ne 9, 3) := by decide +kernel
theorem dX10_copyBeds_25 : decode cX10_copyBeds 25 = .ok (.aload_n 0, 1) := by decide +kernel
theorem dX10_copyBeds_26 : decode cX10_copyBeds 26 = .ok (.iconst 2, 1) := by decide +kernel
theorem dX10_copyBeds_27 : decode cX10_copyBeds 27 = .ok (.invokevirtual 151, 3) := by decide +kernel
theorem dX10_copyBeds_30 : decode cX10_copyBeds 30 = .ok (.ireturn, 1) := by decide +kernel
theorem dX10_copyBeds_31 : decode cX10_copyBeds 31 = .ok (.aload_n 0, 1) := by decide +kernel
theorem dX10_copyBeds_32 : decode cX10_copyBeds 32 = .ok (.getfield 11, 3) := by decide +kernel
theorem dX10_copyBeds_35 : decode cX10_copyBeds 35 = .ok (.iload_n 1, 1) := by decide +kernel
theorem dX10_copyBeds_36 : decode cX10_copyBeds 36 = .ok (.aaload, 1) := by decide +kernel
theorem dX10_copyBeds_37 : decode cX10_copyBeds 37 = .ok (.iconst 0, 1) := by decide +kernel
theorem dX10_copyBeds_38 : decode cX10_copyBeds 38 = .ok (.aload_n 0, 1) := by decide +kernel
theorem dX10_copyBeds_39 : decode cX10_copyBeds 39 = .ok (.getfield 22, 3) := by decide +kernel
theorem dX10_copyBeds_42 : decode cX10_copyBeds 42 = .ok (.getfield 209, 3) := by decide +kernel
theorem dX10_copyBeds_45 : decode cX10_copyBeds 45 = .ok (.invokevirtual 166, 3) := by decide +kernel
theorem dX10_copyBeds_48 : decode cX10_copyBeds 48 = .ok (.ifCond .ne 9, 3) := by decide +kernel
theorem dX10_copyBeds_51 : decode cX10_copyBeds 51 = .ok (.aload_n 0, 1) := by decide +kernel
theorem dX10_copyBeds_52 : decode cX10_copyBeds 52 = .ok (.iconst 3, 1) := by decide +kernel
theorem dX10_copyBeds_53 : decode cX10_copyBeds 53 = .ok (.invokevirtual 151, 3) := by decide +kernel
theorem dX10_copyBeds_56 : decode cX10_copyBeds 56 = .ok (.ireturn, 1) := by decide +kernel
theorem dX10_copyBeds_57 : decode cX10_copyBeds 57 = .ok (.iconst 0, 1) := by decide +kernel
theorem dX10_copyBeds_58 : decode cX10_copyBeds 58 = .ok (.istore_n 2, 1) := by decide +kernel
theorem dX10_copyBeds_59 : decode cX10_copyBeds 59 = .ok (.iload_n 2, 1) := by decide +kernel
theorem dX10_copyBeds_60 : decode cX10_copyBeds 60 = .ok (.aload_n 0, 1) := by decide +kernel
theorem dX10_copyBeds_61 : decode cX10_copyBeds 61 = .ok (.getfield 22, 3) := by decide +kernel
theorem dX10_copyBeds_64 : decode cX10_copyBeds 64 = .ok (.getfield 209, 3) := by decide +kernel
theorem dX10_copyBeds_67 : decode cX10_copyBeds 67 = .ok (.if_icmp .ge 29, 3) := by decide +kernel
theorem dX10_copyBeds_70 : decode cX10_copyBeds 70 = .ok (.aload_n 0, 1) := by decide +kernel
theorem dX10_copyBeds_71 : decode cX10_copyBeds 71 = .ok (.getfield 11, 3) := by decide +kernel
theorem dX10_copyBeds_74 : decode cX10_copyBeds 74 = .ok (.iload_n 1, 1) := by decide +kernel
theorem dX10_copyBeds_75 : decode cX10_copyBeds 75 = .ok (.aaload, 1) := by decide +kernel
theorem dX10_copyBeds_76 : decode cX10_copyBeds 76 = .ok (.iload_n 2, 1) := by decide +kernel
theorem dX10_copyBeds_77 : decode cX10_copyBeds 77 = .ok (.aload_n 0, 1) := by decide +kernel
theorem dX10_copyBeds_78 : decode cX10_copyBeds 78 = .ok (.getfield 22, 3) := by decide +kernel
theorem dX10_copyBeds_81 : decode cX10_copyBeds 81 = .ok (.getfield 243, 3) := by decide +kernel
theorem dX10_copyBeds_84 : decode cX10_copyBeds 84 = .ok (.iload_n 2, 1) := by decide +kernel
theorem dX10_copyBeds_85 : decode cX10_copyBeds 85 = .ok (.iaload, 1) := by decide +kernel
theorem dX10_copyBeds_86 : decode cX10_copyBeds 86 = .ok (.i2l, 1) := by decide +kernel
theorem dX10_copyBeds_87 : decode cX10_copyBeds 87 = .ok (.invokevirtual 147, 3) := by decide +kernel
theorem dX10_copyBeds_90 : decode cX10_copyBeds 90 = .ok (.iinc 2 1, 3) := by decide +kernel
theorem dX10_copyBeds_93 : decode cX10_copyBeds 93 = .ok (.goto (-34), 3) := by decide +kernel
theorem dX10_copyBeds_96 : decode cX10_copyBeds 96 = .ok (.aload_n 0, 1) := by decide +kernel
theorem dX10_copyBeds_97 : decode cX10_copyBeds 97 = .ok (.aload_n 0, 1) := by decide +kernel
theorem dX10_copyBeds_98 : decode cX10_copyBeds 98 = .ok (.getfield 22, 3) := by decide +kernel
theorem dX10_copyBeds_101 : decode cX10_copyBeds 101 = .ok (.getfield 209, 3) := by decide +kernel
theorem dX10_copyBeds_104 : decode cX10_copyBeds 104 = .ok (.invokevirtual 199, 3) := by decide +kernel
theorem dX10_copyBeds_107 : decode cX10_copyBeds 107 = .ok (.ireturn, 1) := by decide +kernel
theorem dX10_live_0 : decode cX10_live 0 = .ok (.iload_n 1, 1) := by decide +kernel
theorem dX10_live_1 : decode cX10_live 1 = .ok (.iconst 0, 1) := by decide +kernel
theorem dX10_live_2 : decode cX10_live 2 = .ok (.sipush 9999, 3) := by decide +kernel
theorem dX10_live_5 : decode cX10_live 5 = .ok (.invokestatic 128, 3) := by decide +kernel
theorem dX10_live_8 : decode cX10_live 8 = .ok (.ifCond .ne 9, 3) := by decide +kernel
theorem dX10_live_11 : decode cX10_live 11 = .ok (.aload_n 0, 1) := by decide +kernel
theorem dX10_live_12 : decode cX10_live 12 = .ok (.iconst 1, 1) := by decide +kernel
theorem dX10_live_13 : decode cX10_live 13 = .ok (.invokevirtual 151, 3) := by decide +kernel
theorem dX10_live_16 : decode cX10_live 16 = .ok (.ireturn, 1) := by decide +kernel
theorem dX10_live_17 : decode cX10_live 17 = .ok (.aload_n 0, 1) := by decide +kernel
theorem dX10_live_18 : decode cX10_live 18 = .ok (.getfield 29, 3) := by decide +kernel
theorem dX10_live_21 : decode cX10_live 21 = .ok (.getfield 376, 3) := by decide +kernel
theorem dX10_live_24 : decode cX10_live 24 = .ok (.ifCond .ne 10, 3) := by decide +kernel
theorem dX10_live_27 : decode cX10_live 27 = .ok (.aload_n 0, 1) := by decide +kernel
theorem dX10_live_28 : decode cX10_live 28 = .ok (.bipush 6, 2) := by decide +kernel
theorem dX10_live_30 : decode cX10_live 30 = .ok (.invokevirtual 151, 3) := by decide +kernel
theorem dX10_live_33 : decode cX10_live 33 = .ok (.ireturn, 1) := by decide +kernel
theorem dX10_live_34 : decode cX10_live 34 = .ok (.aload_n 0, 1) := by decide +kernel
theorem dX10_live_35 : decode cX10_live 35 = .ok (.getfield 79, 3) := by decide +kernel
theorem dX10_live_38 : decode cX10_live 38 = .ok (.aload_n 0, 1) := by decide +kernel
theorem dX10_live_39 : decode cX10_live 39 = .ok (.getfield 22, 3) := by decide +kernel
theorem dX10_live_42 : decode cX10_live 42 = .ok (.iload_n 1, 1) := by decide +kernel
theorem dX10_live_43 : decode cX10_live 43 = .ok (.invokevirtual 379, 3) := by decide +kernel
theorem dX10_live_46 : decode cX10_live 46 = .ok (.aload_n 0, 1) := by decide +kernel
theorem dX10_live_47 : decode cX10_live 47 = .ok (.getfield 79, 3) := by decide +kernel
theorem dX10_live_50 : decode cX10_live 50 = .ok (.invokevirtual 383, 3) := by decide +kernel
theorem dX10_live_53 : decode cX10_live 53 = .ok (.aload_n 0, 1) := by decide +kernel
theorem dX10_live_54 : decode cX10_live 54 = .ok (.aload_n 0, 1) := by decide +kernel
theorem dX10_live_55 : decode cX10_live 55 = .ok (.getfield 79, 3) := by decide +kernel
theorem dX10_live_58 : decode cX10_live 58 = .ok (.getfield 386, 3) := by decide +kernel
theorem dX10_live_61 : decode cX10_live 61 = .ok (.invokevirtual 199, 3) := by decide +kernel
theorem dX10_live_64 : decode cX10_live 64 = .ok (.ireturn, 1) := by decide +kernel
theorem dX10_lived_0 : decode cX10_lived 0 = .ok (.iload_n 1, 1) := by decide +kernel
theorem dX10_lived_1 : decode cX10_lived 1 = .ok (.iconst 0, 1) := by decide +kernel
theorem dX10_lived_2 : decode cX10_lived 2 = .ok (.iconst 4, 1) := by decide +kernel
theorem dX10_lived_3 : decode cX10_lived 3 = .ok (.invokestatic 128, 3) := by decide +kernel
theorem dX10_lived_6 : decode cX10_lived 6 = .ok (.ifCond .ne 9, 3) := by decide +kernel
theorem dX10_lived_9 : decode cX10_lived 9 = .ok (.aload_n 0, 1) := by decide +kernel
theorem dX10_lived_10 : decode cX10_lived 10 = .ok (.iconst 1, 1) := by decide +kernel
theorem dX10_lived_11 : decode cX10_lived 11 = .ok (.invokevirtual 151, 3) := by decide +kernel
theorem dX10_lived_14 : decode cX10_lived 14 = .ok (.ireturn, 1) := by decide +kernel
theorem dX10_lived_15 : decode cX10_lived 15 = .ok (.aload_n 0, 1) := by decide +kernel
theorem dX10_lived_16 : decode cX10_lived 16 = .ok (.getfield 79, 3) := by decide +kernel
theorem dX10_lived_19 : decode cX10_lived 19 = .ok (.getfield 389, 3) := by decide +kernel
theorem dX10_lived_22 : decode cX10_lived 22 = .ok (.ifCond .eq 19, 3) := by decide +kernel
theorem dX10_lived_25 : decode cX10_lived 25 = .ok (.aload_n 0, 1) := by decide +kernel
theorem dX10_lived_26 : decode cX10_lived 26 = .ok (.aload_n 0, 1) := by decide +kernel
theorem dX10_lived_27 : decode cX10_lived 27 = .ok (.getfield 79, 3) := by decide +kernel
theorem dX10_lived_30 : decode cX10_lived 30 = .ok (.getfield 392, 3) := by decide +kernel
theorem dX10_lived_33 : decode cX10_lived 33 = .ok (.iload_n 1, 1) := by decide +kernel
theorem dX10_lived_34 : decode cX10_lived 34 = .ok (.iaload, 1) := by decide +kernel
theorem dX10_lived_35 : decode cX10_lived 35 = .ok (.invokevirtual 199, 3) := by decide +kernel
theorem dX10_lived_38 : decode cX10_lived 38 = .ok (.goto 9, 3) := by decide +kernel
theorem dX10_lived_41 : decode cX10_lived 41 = .ok (.aload_n 0, 1) := by decide +kernel
theorem dX10_lived_42 : decode cX10_lived 42 = .ok (.bipush 6, 2) := by decide +kernel
theorem dX10_lived_44 : decode cX10_lived 44 = .ok (.invokevirtual 151, 3) := by decide +kernel
theorem dX10_lived_47 : decode cX10_lived 47 = .ok (.ireturn, 1) := by decide +kernel
theorem dX10_mean_0 : decode cX10_mean 0 = .ok (.iload_n 1, 1) := by decide +kernel
theorem dX10_mean_1 : decode cX10_mean 1 = .ok (.iconst 0, 1) := by decide +kernel
theorem dX10_mean_2 : decode cX10_mean 2 = .ok (.sipush 9999, 3) := by decide +kernel
theorem dX10_mean_5 : decode cX10_mean 5 = .ok (.invokestatic 128, 3) := by decide +kernel
theorem dX10_mean_8 : decode cX10_mean 8 = .ok (.ifCond .eq 24, 3) := by decide +kernel
theorem dX10_mean_11 : decode cX10_mean 11 = .ok (.iload_n 2, 1) := by decide +kernel
theorem dX10_mean_12 : decode cX10_mean 12 = .ok (.iconst 1, 1) := by decide +kernel
theorem dX10_mean_13 : decode cX10_mean 13 = .ok (.bipush 20, 2) := by decide +kernel
theorem dX10_mean_15 : decode cX10_mean 15 = .ok (.invokestatic 128, 3) := by decide +kernel
theorem dX10_mean_18 : decode cX10_mean 18 = .ok (.ifCond .eq 14, 3) := by decide +kernel
theorem dX10_mean_21 : decode cX10_mean 21 = .ok (.iload_n 1, 1) := by decide +kernel
theorem dX10_mean_22 : decode cX10_mean 22 = .ok (.iload_n 2, 1) := by decide +kernel
theorem dX10_mean_23 : decode cX10_mean 23 = .ok (.iadd, 1) := by decide +kernel
theorem dX10_mean_24 : decode cX10_mean 24 = .ok (.iconst 1, 1) := by decide +kernel
theorem dX10_mean_25 : decode cX10_mean 25 = .ok (.isub, 1) := by decide +kernel
theorem dX10_mean_26 : decode cX10_mean 26 = .ok (.sipush 9999, 3) := by decide +kernel
theorem dX10_mean_29 : decode cX10_mean 29 = .ok (.if_icmp .le 9, 3) := by decide +kernel
theorem dX10_mean_32 : decode cX10_mean 32 = .ok (.aload_n 0, 1) := by decide +kernel
theorem dX10_mean_33 : decode cX10_mean 33 = .ok (.iconst 1, 1) := by decide +kernel
theorem dX10_mean_34 : decode cX10_mean 34 = .ok (.invokevirtual 132, 3) := by decide +kernel
theorem dX10_mean_37 : decode cX10_mean 37 = .ok (.ireturn, 1) := by decide +kernel
theorem dX10_mean_38 : decode cX10_mean 38 = .ok (.aload_n 0, 1) := by decide +kernel
theorem dX10_mean_39 : decode cX10_mean 39 = .ok (.getfield 29, 3) := by decide +kernel
theorem dX10_mean_42 : decode cX10_mean 42 = .ok (.getfield 376, 3) := by decide +kernel
theorem dX10_mean_45 : decode cX10_mean 45 = .ok (.ifCond .ne 10, 3) := by decide +kernel
theorem dX10_mean_48 : decode cX10_mean 48 = .ok (.aload_n 0, 1) := by decide +kernel
theorem dX10_mean_49 : decode cX10_mean 49 = .ok (.bipush 6, 2) := by decide +kernel
theorem dX10_mean_51 : decode cX10_mean 51 = .ok (.invokevirtual 132, 3) := by decide +kernel
theorem dX10_mean_54 : decode cX10_mean 54 = .ok (.ireturn, 1) := by decide +kernel
theorem dX10_mean_55 : decode cX10_mean 55 = .ok (.lconst 0, 1) := by decide +kernel
theorem dX10_mean_56 : decode cX10_mean 56 = .ok (.lstore_n 3, 1) := by decide +kernel
theorem dX10_mean_57 : decode cX10_mean 57 = .ok (.iconst 0, 1) := by decide +kernel
theorem dX10_mean_58 : decode cX10_mean 58 = .ok (.istore 5, 2) := by decide +kernel
theorem dX10_mean_60 : decode cX10_mean 60 = .ok (.iload 5, 2) := by decide +kernel
theorem dX10_mean_62 : decode cX10_mean 62 = .ok (.iload_n 2, 1) := by decide +kernel
theorem dX10_mean_63 : decode cX10_mean 63 = .ok (.if_icmp .ge 46, 3) := by decide +kernel
theorem dX10_mean_66 : decode cX10_mean 66 = .ok (.aload_n 0, 1) := by decide +kernel
theorem dX10_mean_67 : decode cX10_mean 67 = .ok (.getfield 41, 3) := by decide +kernel
theorem dX10_mean_70 : decode cX10_mean 70 = .ok (.aload_n 0, 1) := by decide +kernel
theorem dX10_mean_71 : decode cX10_mean 71 = .ok (.getfield 22, 3) := by decide +kernel
theorem dX10_mean_74 : decode cX10_mean 74 = .ok (.invokevirtual 190, 3) := by decide +kernel
theorem dX10_mean_77 : decode cX10_mean 77 = .ok (.aload_n 0, 1) := by decide +kernel
theorem dX10_mean_78 : decode cX10_mean 78 = .ok (.getfield 79, 3) := by decide +kernel
theorem dX10_mean_81 : decode cX10_mean 81 = .ok (.aload_n 0, 1) := by decide +kernel
theorem dX10_mean_82 : decode cX10_mean 82 = .ok (.getfield 41, 3) := by decide +kernel
theorem dX10_mean_85 : decode cX10_mean 85 = .ok (.iload_n 1, 1) := by decide +kernel
theorem dX10_mean_86 : decode cX10_mean 86 = .ok (.iload 5, 2) := by decide +kernel
theorem dX10_mean_88 : decode cX10_mean 88 = .ok (.iadd, 1) := by decide +kernel
theorem dX10_mean_89 : decode cX10_mean 89 = .ok (.invokevirtual 379, 3) := by decide +kernel
theorem dX10_mean_92 : decode cX10_mean 92 = .ok (.lload_n 3, 1) := by decide +kernel
theorem dX10_mean_93 : decode cX10_mean 93 = .ok (.aload_n 0, 1) := by decide +kernel
theorem dX10_mean_94 : decode cX10_mean 94 = .ok (.getfield 41, 3) := by decide +kernel
theorem dX10_mean_97 : decode cX10_mean 97 = .ok (.invokevirtual 234, 3) := by decide +kernel
theorem dX10_mean_100 : decode cX10_mean 100 = .ok (.i2l, 1) := by decide +kernel
theorem dX10_mean_101 : decode cX10_mean 101 = .ok (.ladd, 1) := by decide +kernel
theorem dX10_mean_102 : decode cX10_mean 102 = .ok (.lstore_n 3, 1) := by decide +kernel
theorem dX10_mean_103 : decode cX10_mean 103 = .ok (.iinc 5 1, 3) := by decide +kernel
theorem dX10_mean_106 : decode cX10_mean 106 = .ok (.goto (-46), 3) := by decide +kernel
theorem dX10_mean_109 : decode cX10_mean 109 = .ok (.aload_n 0, 1) := by decide +kernel
theorem dX10_mean_110 : decode cX10_mean 110 = .ok (.getfield 102, 3) := by decide +kernel
theorem dX10_mean_113 : decode cX10_mean 113 = .ok (.lload_n 3, 1) := by decide +kernel
theorem dX10_mean_114 : decode cX10_mean 114 = .ok (.iload_n 2, 1) := by decide +kernel
theorem dX10_mean_115 : decode cX10_mean 115 = .ok (.i2l, 1) := by decide +kernel
theorem dX10_mean_116 : decode cX10_mean 116 = .ok (.invokevirtual 356, 3) := by decide +kernel
theorem dX10_mean_119 : decode cX10_mean 119 = .ok (.aload_n 0, 1) := by decide +kernel
theorem dX10_mean_120 : decode cX10_mean 120 = .ok (.invokevirtual 139, 3) := by decide +kernel
theorem dX10_mean_123 : decode cX10_mean 123 = .ok (.ireturn, 1) := by decide +kernel
theorem dX10_mark_0 : decode cX10_mark 0 = .ok (.aload_n 0, 1) := by decide +kernel
theorem dX10_mark_1 : decode cX10_mark 1 = .ok (.getfield 395, 3) := by decide +kernel
theorem dX10_mark_4 : decode cX10_mark 4 = .ok (.iconst 3, 1) := by decide +kernel
theorem dX10_mark_5 : decode cX10_mark 5 = .ok (.if_icmp .lt 9, 3) := by decide +kernel
theorem dX10_mark_8 : decode cX10_mark 8 = .ok (.aload_n 0, 1) := by decide +kernel
theorem dX10_mark_9 : decode cX10_mark 9 = .ok (.iconst 4, 1) := by decide +kernel
theorem dX10_mark_10 : decode cX10_mark 10 = .ok (.invokevirtual 151, 3) := by decide +kernel
theorem dX10_mark_13 : decode cX10_mark 13 = .ok (.ireturn, 1) := by decide +kernel
theorem dX10_mark_14 : decode cX10_mark 14 = .ok (.aload_n 0, 1) := by decide +kernel
theorem dX10_mark_15 : decode cX10_mark 15 = .ok (.getfield 33, 3) := by decide +kernel
theorem dX10_mark_18 : decode cX10_mark 18 = .ok (.aload_n 0, 1) := by decide +kernel
theorem dX10_mark_19 : decode cX10_mark 19 = .ok (.getfield 395, 3) := by decide +kernel
theorem dX10_mark_22 : decode cX10_mark 22 = .ok (.aaload, 1) := by decide +kernel
theorem dX10_mark_23 : decode cX10_mark 23 = .ok (.aload_n 0, 1) := by decide +kernel
theorem dX10_mark_24 : decode cX10_mark 24 = .ok (.getfield 22, 3) := by decide +kernel
theorem dX10_mark_27 : decode cX10_mark 27 = .ok (.invokevirtual 190, 3) := by decide +kernel
theorem dX10_mark_30 : decode cX10_mark 30 = .ok (.aload_n 0, 1) := by decide +kernel
theorem dX10_mark_31 : decode cX10_mark 31 = .ok (.getfield 37, 3) := by decide +kernel
theorem dX10_mark_34 : decode cX10_mark 34 = .ok (.aload_n 0, 1) := by decide +kernel
theorem dX10_mark_35 : decode cX10_mark 35 = .ok (.getfield 395, 3) := by decide +kernel
theorem dX10_mark_38 : decode cX10_mark 38 = .ok (.aaload, 1) := by decide +kernel
theorem dX10_mark_39 : decode cX10_mark 39 = .ok (.aload_n 0, 1) := by decide +kernel
theorem dX10_mark_40 : decode cX10_mark 40 = .ok (.getfield 29, 3) := by decide +kernel
theorem dX10_mark_43 : decode cX10_mark 43 = .ok (.invokevirtual 203, 3) := by decide +kernel
theorem dX10_mark_46 : decode cX10_mark 46 = .ok (.aload_n 0, 1) := by decide +kernel
theorem dX10_mark_47 : decode cX10_mark 47 = .ok (.dup, 1) := by decide +kernel
theorem dX10_mark_48 : decode cX10_mark 48 = .ok (.getfield 395, 3) := by decide +kernel
theorem dX10_mark_51 : decode cX10_mark 51 = .ok (.iconst 1, 1) := by decide +kernel
theorem dX10_mark_52 : decode cX10_mark 52 = .ok (.iadd, 1) := by decide +kernel
theorem dX10_mark_53 : decode cX10_mark 53 = .ok (.putfield 395, 3) := by decide +kernel
theorem dX10_mark_56 : decode cX10_mark 56 = .ok (.aload_n 0, 1) := by decide +kernel
theorem dX10_mark_57 : decode cX10_mark 57 = .ok (.aload_n 0, 1) := by decide +kernel
theorem dX10_mark_58 : decode cX10_mark 58 = .ok (.getfield 395, 3) := by decide +kernel
theorem dX10_mark_61 : decode cX10_mark 61 = .ok (.invokevirtual 199, 3) := by decide +kernel
theorem dX10_mark_64 : decode cX10_mark 64 = .ok (.ireturn, 1) := by decide +kernel
theorem dX10_undo_0 : decode cX10_undo 0 = .ok (.aload_n 0, 1) := by decide +kernel
theorem dX10_undo_1 : decode cX10_undo 1 = .ok (.getfield 395, 3) := by decide +kernel
theorem dX10_undo_4 : decode cX10_undo 4 = .ok (.ifCond .ne 10, 3) := by decide +kernel
theorem dX10_undo_7 : decode cX10_undo 7 = .ok (.aload_n 0, 1) := by decide +kernel
theorem dX10_undo_8 : decode cX10_undo 8 = .ok (.bipush 6, 2) := by decide +kernel
theorem dX10_undo_10 : decode cX10_undo 10 = .ok (.invokevirtual 151, 3) := by decide +kernel
theorem dX10_undo_13 : decode cX10_undo 13 = .ok (.ireturn, 1) := by decide +kernel
theorem dX10_undo_14 : decode cX10_undo 14 = .ok (.aload_n 0, 1) := by decide +kernel
theorem dX10_undo_15 : decode cX10_undo 15 = .ok (.dup, 1) := by decide +kernel
theorem dX10_undo_16 : decode cX10_undo 16 = .ok (.getfield 395, 3) := by decide +kernel
theorem dX10_undo_19 : decode cX10_undo 19 = .ok (.iconst 1, 1) := by decide +kernel
theorem dX10_undo_20 : decode cX10_undo 20 = .ok (.isub, 1) := by decide +kernel
theorem dX10_undo_21 : decode cX10_undo 21 = .ok (.putfield 395, 3) := by decide +kernel
theorem dX10_undo_24 : decode cX10_undo 24 = .ok (.aload_n 0, 1) := by decide +kernel
theorem dX10_undo_25 : decode cX10_undo 25 = .ok (.getfield 22, 3) := by decide +kernel
theorem dX10_undo_28 : decode cX10_undo 28 = .ok (.aload_n 0, 1) := by decide +kernel
theorem dX10_undo_29 : decode cX10_undo 29 = .ok (.getfield 33, 3) := by decide +kernel
theorem dX10_undo_32 : decode cX10_undo 32 = .ok (.aload_n 0, 1) := by decide +kernel
theorem dX10_undo_33 : decode cX10_undo 33 = .ok (.getfield 395, 3) := by decide +kernel
theorem dX10_undo_36 : decode cX10_undo 36 = .ok (.aaload, 1) := by decide +kernel
theorem dX10_undo_37 : decode cX10_undo 37 = .ok (.invokevirtual 190, 3) := by decide +kernel
theorem dX10_undo_40 : decode cX10_undo 40 = .ok (.aload_n 0, 1) := by decide +kernel
theorem dX10_undo_41 : decode cX10_undo 41 = .ok (.getfield 29, 3) := by decide +kernel
theorem dX10_undo_44 : decode cX10_undo 44 = .ok (.aload_n 0, 1) := by decide +kernel
theorem dX10_undo_45 : decode cX10_undo 45 = .ok (.getfield 37, 3) := by decide +kernel
theorem dX10_undo_48 : decode cX10_undo 48 = .ok (.aload_n 0, 1) := by decide +kernel
theorem dX10_undo_49 : decode cX10_undo 49 = .ok (.getfield 395, 3) := by decide +kernel
theorem dX10_undo_52 : decode cX10_undo 52 = .ok (.aaload, 1) := by decide +kernel
theorem dX10_undo_53 : decode cX10_undo 53 = .ok (.invokevirtual 203, 3) := by decide +kernel
theorem dX10_undo_56 : decode cX10_undo 56 = .ok (.aload_n 0, 1) := by decide +kernel
theorem dX10_undo_57 : decode cX10_undo 57 = .ok (.aload_n 0, 1) := by decide +kernel
theorem dX10_undo_58 : decode cX10_undo 58 = .ok (.getfield 395, 3) := by decide +kernel
theorem dX10_undo_61 : decode cX10_undo 61 = .ok (.invokevirtual 199, 3) := by decide +kernel
theorem dX10_undo_64 : decode cX10_undo 64 = .ok (.ireturn, 1) := by decide +kernel
theorem dX10_give_0 : decode cX10_give 0 = .ok (.aload_n 0, 1) := by decide +kernel
theorem dX10_give_1 : decode cX10_give 1 = .ok (.iconst 0, 1) := by decide +kernel
theorem dX10_give_2 : decode cX10_give 2 = .ok (.putfield 114, 3) := by decide +kernel
theorem dX10_give_5 : decode cX10_give 5 = .ok (.iload_n 1, 1) := by decide +kernel
theorem dX10_give_6 : decode cX10_give 6 = .ok (.ireturn, 1) := by decide +kernel
theorem dX10_giveIfAny_0 : decode cX10_giveIfAny 0 = .ok (.iload_n 1, 1) := by decide +kernel
theorem dX10_giveIfAny_1 : decode cX10_giveIfAny 1 = .ok (.iconst (-1), 1) := by decide +kernel
theorem dX10_giveIfAny_2 : decode cX10_giveIfAny 2 = .ok (.if_icmp .ne 12, 3) := by decide +kernel
theorem dX10_giveIfAny_5 : decode cX10_giveIfAny 5 = .ok (.aload_n 0, 1) := by decide +kernel
theorem dX10_giveIfAny_6 : decode cX10_giveIfAny 6 = .ok (.bipush 6, 2) := by decide +kernel
theorem dX10_giveIfAny_8 : decode cX10_giveIfAny 8 = .ok (.invokevirtual 151, 3) := by decide +kernel
theorem dX10_giveIfAny_11 : decode cX10_giveIfAny 11 = .ok (.goto 8, 3) := by decide +kernel
theorem dX10_giveIfAny_14 : decode cX10_giveIfAny 14 = .ok (.aload_n 0, 1) := by decide +kernel
theorem dX10_giveIfAny_15 : decode cX10_giveIfAny 15 = .ok (.iload_n 1, 1) := by decide +kernel
theorem dX10_giveIfAny_16 : decode cX10_giveIfAny 16 = .ok (.invokevirtual 199, 3) := by decide +kernel
theorem dX10_giveIfAny_19 : decode cX10_giveIfAny 19 = .ok (.ireturn, 1) := by decide +kernel
theorem dX10_refuse_0 : decode cX10_refuse 0 = .ok (.aload_n 0, 1) := by decide +kernel
theorem dX10_refuse_1 : decode cX10_refuse 1 = .ok (.iload_n 1, 1) := by decide +kernel
theorem dX10_refuse_2 : decode cX10_refuse 2 = .ok (.putfield 114, 3) := by decide +kernel
theorem dX10_refuse_5 : decode cX10_refuse 5 = .ok (.iconst (-1), 1) := by decide +kernel
theorem dX10_refuse_6 : decode cX10_refuse 6 = .ok (.ireturn, 1) := by decide +kernel
theorem dX10_grant_0 : decode cX10_grant 0 = .ok (.aload_n 0, 1) := by decide +kernel
theorem dX10_grant_1 : decode cX10_grant 1 = .ok (.iconst 0, 1) := by decide +kernel
theorem dX10_grant_2 : decode cX10_grant 2 = .ok (.putfield 114, 3) := by decide +kernel
theorem dX10_grant_5 : decode cX10_grant 5 = .ok (.iconst 1, 1) := by decide +kernel
theorem dX10_grant_6 : decode cX10_grant 6 = .ok (.ireturn, 1) := by decide +kernel
theorem dX10_deny_0 : decode cX10_deny 0 = .ok (.aload_n 0, 1) := by decide +kernel
theorem dX10_deny_1 : decode cX10_deny 1 = .ok (.iload_n 1, 1) := by decide +kernel
theorem dX10_deny_2 : decode cX10_deny 2 = .ok (.putfield 114, 3) := by decide +kernel
theorem dX10_deny_5 : decode cX10_deny 5 = .ok (.iconst 0, 1) := by decide +kernel
theorem dX10_deny_6 : decode cX10_deny 6 = .ok (.ireturn, 1) := by decide +kernel
theorem dX10_isWithin_0 : decode cX10_isWithin 0 = .ok (.iload_n 0, 1) := by decide +kernel
theorem dX10_isWithin_1 : decode cX10_isWithin 1 = .ok (.iload_n 1, 1) := by decide +kernel
theorem dX10_isWithin_2 : decode cX10_isWithin 2 = .ok (.if_icmp .lt 12, 3) := by decide +kernel
theorem dX10_isWithin_5 : decode cX10_isWithin 5 = .ok (.iload_n 0, 1) := by decide +kernel
theorem dX10_isWithin_6 : decode cX10_isWithin 6 = .ok (.iload_n 2, 1) := by decide +kernel
theorem dX10_isWithin_7 : decode cX10_isWithin 7 = .ok (.if_icmp .gt 7, 3) := by decide +kernel
theorem dX10_isWithin_10 : decode cX10_isWithin 10 = .ok (.iconst 1, 1) := by decide +kernel
theorem dX10_isWithin_11 : decode cX10_isWithin 11 = .ok (.goto 4, 3) := by decide +kernel
theorem dX10_isWithin_14 : decode cX10_isWithin 14 = .ok (.iconst 0, 1) := by decide +kernel
theorem dX10_isWithin_15 : decode cX10_isWithin 15 = .ok (.ireturn, 1) := by decide +kernel
theorem dX10_isTray_0 : decode cX10_isTray 0 = .ok (.iload_n 0, 1) := by decide +kernel
theorem dX10_isTray_1 : decode cX10_isTray 1 = .ok (.iconst 0, 1) := by decide +kernel
theorem dX10_isTray_2 : decode cX10_isTray 2 = .ok (.iconst 3, 1) := by decide +kernel
theorem dX10_isTray_3 : decode cX10_isTray 3 = .ok (.invokestatic 128, 3) := by decide +kernel
theorem dX10_isTray_6 : decode cX10_isTray 6 = .ok (.ireturn, 1) := by decide +kernel
theorem dX10_isSetOfSome_0 : decode cX10_isSetOfSome 0 = .ok (.iload_n 1, 1) := by decide +kernel
theorem dX10_isSetOfSome_1 : decode cX10_isSetOfSome 1 = .ok (.ifCond .eq 18, 3) := by decide +kernel
theorem dX10_isSetOfSome_4 : decode cX10_isSetOfSome 4 = .ok (.aload_n 0, 1) := by decide +kernel
theorem dX10_isSetOfSome_5 : decode cX10_isSetOfSome 5 = .ok (.getfield 22, 3) := by decide +kernel
theorem dX10_isSetOfSome_8 : decode cX10_isSetOfSome 8 = .ok (.iload_n 1, 1) := by decide +kernel
theorem dX10_isSetOfSome_9 : decode cX10_isSetOfSome 9 = .ok (.invokevirtual 302, 3) := by decide +kernel
theorem dX10_isSetOfSome_12 : decode cX10_isSetOfSome 12 = .ok (.ifCond .eq 7, 3) := by decide +kernel
theorem dX10_isSetOfSome_15 : decode cX10_isSetOfSome 15 = .ok (.iconst 1, 1) := by decide +kernel
theorem dX10_isSetOfSome_16 : decode cX10_isSetOfSome 16 = .ok (.goto 4, 3) := by decide +kernel
theorem dX10_isSetOfSome_19 : decode cX10_isSetOfSome 19 = .ok (.iconst 0, 1) := by decide +kernel
theorem dX10_isSetOfSome_20 : decode cX10_isSetOfSome 20 = .ok (.ireturn, 1) := by decide +kernel
theorem dX10_hindranceAt_0 : decode cX10_hindranceAt 0 = .ok (.iload_n 1, 1) := by decide +kernel
theorem dX10_hindranceAt_1 : decode cX10_hindranceAt 1 = .ok (.invokestatic 124, 3) := by decide +kernel
theorem dX10_hindranceAt_4 : decode cX10_hindranceAt 4 = .ok (.ifCond .ne 5, 3) := by decide +kernel
theorem dX10_hindranceAt_7 : decode cX10_hindranceAt 7 = .ok (.iconst 1, 1) := by decide +kernel
theorem dX10_hindranceAt_8 : decode cX10_hindranceAt 8 = .ok (.ireturn, 1) := by decide +kernel
theorem dX10_hindranceAt_9 : decode cX10_hindranceAt 9 = .ok (.aload_n 0, 1) := by decide +kernel
theorem dX10_hindranceAt_10 : decode cX10_hindranceAt 10 = .ok (.getfield 11, 3) := by decide +kernel
theorem dX10_hindranceAt_13 : decode cX10_hindranceAt 13 = .ok (.iload_n 1, 1) := by decide +kernel
theorem dX10_hindranceAt_14 : decode cX10_hindranceAt 14 = .ok (.aaload, 1) := by decide +kernel
theorem dX10_hindranceAt_15 : decode cX10_hindranceAt 15 = .ok (.getfield 159, 3) := by decide +kernel
theorem dX10_hindranceAt_18 : decode cX10_hindranceAt 18 = .ok (.ifCond .ne 5, 3) := by decide +kernel
theorem dX10_hindranceAt_21 : decode cX10_hindranceAt 21 = .ok (.iconst 2, 1) := by decide +kernel
theorem dX10_hindranceAt_22 : decode cX10_hindranceAt 22 = .ok (.ireturn, 1) := by decide +kernel
theorem dX10_hindranceAt_23 : decode cX10_hindranceAt 23 = .ok (.iload_n 2, 1) := by decide +kernel
theorem dX10_hindranceAt_24 : decode cX10_hindranceAt 24 = .ok (.iconst 0, 1) := by decide +kernel
theorem dX10_hindranceAt_25 : decode cX10_hindranceAt 25 = .ok (.aload_n 0, 1) := by decide +kernel
theorem dX10_hindranceAt_26 : decode cX10_hindranceAt 26 = .ok (.getfield 11, 3) := by decide +kernel
theorem dX10_hindranceAt_29 : decode cX10_hindranceAt 29 = .ok (.iload_n 1, 1) := by decide +kernel
theorem dX10_hindranceAt_30 : decode cX10_hindranceAt 30 = .ok (.aaload, 1) := by decide +kernel
theorem dX10_hindranceAt_31 : decode cX10_hindranceAt 31 = .ok (.getfield 398, 3) := by decide +kernel
theorem dX10_hindranceAt_34 : decode cX10_hindranceAt 34 = .ok (.iconst 1, 1) := by decide +kernel
theorem dX10_hindranceAt_35 : decode cX10_hindranceAt 35 = .ok (.isub, 1) := by decide +kernel
theorem dX10_hindranceAt_36 : decode cX10_hindranceAt 36 = .ok (.invokestatic 128, 3) := by decide +kernel
theorem dX10_hindranceAt_39 : decode cX10_hindranceAt 39 = .ok (.ifCond .eq 7, 3) := by decide +kernel
theorem dX10_hindranceAt_42 : decode cX10_hindranceAt 42 = .ok (.iconst 0, 1) := by decide +kernel
theorem dX10_hindranceAt_43 : decode cX10_hindranceAt 43 = .ok (.goto 4, 3) := by decide +kernel
theorem dX10_hindranceAt_46 : decode cX10_hindranceAt 46 = .ok (.iconst 3, 1) := by decide +kernel
theorem dX10_hindranceAt_47 : decode cX10_hindranceAt 47 = .ok (.ireturn, 1) := by decide +kernel
theorem dX10_putOnTape_0 : decode cX10_putOnTape 0 = .ok (.bipush 24, 2) := by decide +kernel
theorem dX10_putOnTape_2 : decode cX10_putOnTape 2 = .ok (.istore_n 2, 1) := by decide +kernel
theorem dX10_putOnTape_3 : decode cX10_putOnTape 3 = .ok (.iload_n 2, 1) := by decide +kernel
theorem dX10_putOnTape_4 : decode cX10_putOnTape 4 = .ok (.ifCond .lt 32, 3) := by decide +kernel
theorem dX10_putOnTape_7 : decode cX10_putOnTape 7 = .ok (.aload_n 0, 1) := by decide +kernel
theorem dX10_putOnTape_8 : decode cX10_putOnTape 8 = .ok (.getfield 15, 3) := by decide +kernel
theorem dX10_putOnTape_11 : decode cX10_putOnTape 11 = .ok (.aload_n 0, 1) := by decide +kernel
theorem dX10_putOnTape_12 : decode cX10_putOnTape 12 = .ok (.getfield 176, 3) := by decide +kernel
theorem dX10_putOnTape_15 : decode cX10_putOnTape 15 = .ok (.iload_n 1, 1) := by decide +kernel
theorem dX10_putOnTape_16 : decode cX10_putOnTape 16 = .ok (.iload_n 2, 1) := by decide +kernel
theorem dX10_putOnTape_17 : decode cX10_putOnTape 17 = .ok (.iushr, 1) := by decide +kernel
theorem dX10_putOnTape_18 : decode cX10_putOnTape 18 = .ok (.i2b, 1) := by decide +kernel
theorem dX10_putOnTape_19 : decode cX10_putOnTape 19 = .ok (.bastore, 1) := by decide +kernel
theorem dX10_putOnTape_20 : decode cX10_putOnTape 20 = .ok (.aload_n 0, 1) := by decide +kernel
theorem dX10_putOnTape_21 : decode cX10_putOnTape 21 = .ok (.dup, 1) := by decide +kernel
theorem dX10_putOnTape_22 : decode cX10_putOnTape 22 = .ok (.getfield 176, 3) := by decide +kernel
theorem dX10_putOnTape_25 : decode cX10_putOnTape 25 = .ok (.iconst 1, 1) := by decide +kernel
theorem dX10_putOnTape_26 : decode cX10_putOnTape 26 = .ok (.iadd, 1) := by decide +kernel
theorem dX10_putOnTape_27 : decode cX10_putOnTape 27 = .ok (.putfield 176, 3) := by decide +kernel
theorem dX10_putOnTape_30 : decode cX10_putOnTape 30 = .ok (.iinc 2 (-8), 3) := by decide +kernel
theorem dX10_putOnTape_33 : decode cX10_putOnTape 33 = .ok (.goto (-30), 3) := by decide +kernel
theorem dX10_putOnTape_36 : decode cX10_putOnTape 36 = .ok (.return_, 1) := by decide +kernel
theorem dX10_endText_0 : decode cX10_endText 0 = .ok (.aload_n 0, 1) := by decide +kernel
theorem dX10_endText_1 : decode cX10_endText 1 = .ok (.iconst 0, 1) := by decide +kernel
theorem dX10_endText_2 : decode cX10_endText 2 = .ok (.putfield 176, 3) := by decide +kernel
theorem dX10_endText_5 : decode cX10_endText 5 = .ok (.aload_n 0, 1) := by decide +kernel
theorem dX10_endText_6 : decode cX10_endText 6 = .ok (.iload_n 1, 1) := by decide +kernel
theorem dX10_endText_7 : decode cX10_endText 7 = .ok (.ifCond .eq 7, 3) := by decide +kernel
theorem dX10_endText_10 : decode cX10_endText 10 = .ok (.iconst 0, 1) := by decide +kernel
theorem dX10_endText_11 : decode cX10_endText 11 = .ok (.goto 10, 3) := by decide +kernel
theorem dX10_endText_14 : decode cX10_endText 14 = .ok (.aload_n 0, 1) := by decide +kernel
theorem dX10_endText_15 : decode cX10_endText 15 = .ok (.getfield 52, 3) := by decide +kernel
theorem dX10_endText_18 : decode cX10_endText 18 = .ok (.getfield 401, 3) := by decide +kernel
theorem dX10_endText_21 : decode cX10_endText 21 = .ok (.putfield 106, 3) := by decide +kernel
theorem dX10_endText_24 : decode cX10_endText 24 = .ok (.aload_n 0, 1) := by decide +kernel
theorem dX10_endText_25 : decode cX10_endText 25 = .ok (.iload_n 1, 1) := by decide +kernel
theorem dX10_endText_26 : decode cX10_endText 26 = .ok (.ifCond .eq 7, 3) := by decide +kernel
theorem dX10_endText_29 : decode cX10_endText 29 = .ok (.iconst (-1), 1) := by decide +kernel
theorem dX10_endText_30 : decode cX10_endText 30 = .ok (.goto 10, 3) := by decide +kernel
theorem dX10_endText_33 : decode cX10_endText 33 = .ok (.aload_n 0, 1) := by decide +kernel
theorem dX10_endText_34 : decode cX10_endText 34 = .ok (.getfield 52, 3) := by decide +kernel
theorem dX10_endText_37 : decode cX10_endText 37 = .ok (.getfield 402, 3) := by decide +kernel
theorem dX10_endText_40 : decode cX10_endText 40 = .ok (.putfield 110, 3) := by decide +kernel
theorem dX10_endText_43 : decode cX10_endText 43 = .ok (.return_, 1) := by decide +kernel
theorem dX10_hindranceToFit_0 : decode cX10_hindranceToFit 0 = .ok (.iload_n 1, 1) := by decide +kernel
theorem dX10_hindranceToFit_1 : decode cX10_hindranceToFit 1 = .ok (.invokestatic 124, 3) := by decide +kernel
theorem dX10_hindranceToFit_4 : decode cX10_hindranceToFit 4 = .ok (.ifCond .eq 13, 3) := by decide +kernel
theorem dX10_hindranceToFit_7 : decode cX10_hindranceToFit 7 = .ok (.iload_n 2, 1) := by decide +kernel
theorem dX10_hindranceToFit_8 : decode cX10_hindranceToFit 8 = .ok (.iconst 0, 1) := by decide +kernel
theorem dX10_hindranceToFit_9 : decode cX10_hindranceToFit 9 = .ok (.bipush 20, 2) := by decide +kernel
theorem dX10_hindranceToFit_11 : decode cX10_hindranceToFit 11 = .ok (.invokestatic 128, 3) := by decide +kernel
theorem dX10_hindranceToFit_14 : decode cX10_hindranceToFit 14 = .ok (.ifCond .ne 5, 3) := by decide +kernel
theorem dX10_hindranceToFit_17 : decode cX10_hindranceToFit 17 = .ok (.iconst 1, 1) := by decide +kernel
theorem dX10_hindranceToFit_18 : decode cX10_hindranceToFit 18 = .ok (.ireturn, 1) := by decide +kernel
theorem dX10_hindranceToFit_19 : decode cX10_hindranceToFit 19 = .ok (.aload_n 0, 1) := by decide +kernel
theorem dX10_hindranceToFit_20 : decode cX10_hindranceToFit 20 = .ok (.getfield 11, 3) := by decide +kernel
theorem dX10_hindranceToFit_23 : decode cX10_hindranceToFit 23 = .ok (.iload_n 1, 1) := by decide +kernel
theorem dX10_hindranceToFit_24 : decode cX10_hindranceToFit 24 = .ok (.aaload, 1) := by decide +kernel
theorem dX10_hindranceToFit_25 : decode cX10_hindranceToFit 25 = .ok (.astore_n 3, 1) := by decide +kernel
theorem dX10_hindranceToFit_26 : decode cX10_hindranceToFit 26 = .ok (.aload_n 3, 1) := by decide +kernel
theorem dX10_hindranceToFit_27 : decode cX10_hindranceToFit 27 = .ok (.getfield 159, 3) := by decide +kernel
theorem dX10_hindranceToFit_30 : decode cX10_hindranceToFit 30 = .ok (.ifCond .ne 5, 3) := by decide +kernel
theorem dX10_hindranceToFit_33 : decode cX10_hindranceToFit 33 = .ok (.iconst 2, 1) := by decide +kernel
theorem dX10_hindranceToFit_34 : decode cX10_hindranceToFit 34 = .ok (.ireturn, 1) := by decide +kernel
theorem dX10_hindranceToFit_35 : decode cX10_hindranceToFit 35 = .ok (.aload_n 3, 1) := by decide +kernel
theorem dX10_hindranceToFit_36 : decode cX10_hindranceToFit 36 = .ok (.iconst 0, 1) := by decide +kernel
theorem dX10_hindranceToFit_37 : decode cX10_hindranceToFit 37 = .ok (.iconst 2, 1) := by decide +kernel
theorem dX10_hindranceToFit_38 : decode cX10_hindranceToFit 38 = .ok (.iload_n 2, 1) := by decide +kernel
theorem dX10_hindranceToFit_39 : decode cX10_hindranceToFit 39 = .ok (.imul, 1) := by decide +kernel
theorem dX10_hindranceToFit_40 : decode cX10_hindranceToFit 40 = .ok (.invokevirtual 166, 3) := by decide +kernel
theorem dX10_hindranceToFit_43 : decode cX10_hindranceToFit 43 = .ok (.ifCond .ne 5, 3) := by decide +kernel
theorem dX10_hindranceToFit_46 : decode cX10_hindranceToFit 46 = .ok (.iconst 3, 1) := by decide +kernel
theorem dX10_hindranceToFit_47 : decode cX10_hindranceToFit 47 = .ok (.ireturn, 1) := by decide +kernel
theorem dX10_hindranceToFit_48 : decode cX10_hindranceToFit 48 = .ok (.iconst 0, 1) := by decide +kernel
theorem dX10_hindranceToFit_49 : decode cX10_hindranceToFit 49 = .ok (.istore 4, 2) := by decide +kernel
theorem dX10_hindranceToFit_51 : decode cX10_hindranceToFit 51 = .ok (.iload 4, 2) := by decide +kernel
theorem dX10_hindranceToFit_53 : decode cX10_hindranceToFit 53 = .ok (.iload_n 2, 1) := by decide +kernel
theorem dX10_hindranceToFit_54 : decode cX10_hindranceToFit 54 = .ok (.if_icmp .ge 70, 3) := by decide +kernel
theorem dX10_hindranceToFit_57 : decode cX10_hindranceToFit 57 = .ok (.aload_n 3, 1) := by decide +kernel
theorem dX10_hindranceToFit_58 : decode cX10_hindranceToFit 58 = .ok (.getfield 155, 3) := by decide +kernel
theorem dX10_hindranceToFit_61 : decode cX10_hindranceToFit 61 = .ok (.iconst 2, 1) := by decide +kernel
theorem dX10_hindranceToFit_62 : decode cX10_hindranceToFit 62 = .ok (.iload 4, 2) := by decide +kernel
theorem dX10_hindranceToFit_64 : decode cX10_hindranceToFit 64 = .ok (.imul, 1) := by decide +kernel
theorem dX10_hindranceToFit_65 : decode cX10_hindranceToFit 65 = .ok (.laload, 1) := by decide +kernel
theorem dX10_hindranceToFit_66 : decode cX10_hindranceToFit 66 = .ok (.lstore 5, 2) := by decide +kernel
theorem dX10_hindranceToFit_68 : decode cX10_hindranceToFit 68 = .ok (.aload_n 3, 1) := by decide +kernel
theorem dX10_hindranceToFit_69 : decode cX10_hindranceToFit 69 = .ok (.getfield 155, 3) := by decide +kernel
theorem dX10_hindranceToFit_72 : decode cX10_hindranceToFit 72 = .ok (.iconst 2, 1) := by decide +kernel
theorem dX10_hindranceToFit_73 : decode cX10_hindranceToFit 73 = .ok (.iload 4, 2) := by decide +kernel
theorem dX10_hindranceToFit_75 : decode cX10_hindranceToFit 75 = .ok (.imul, 1) := by decide +kernel
theorem dX10_hindranceToFit_76 : decode cX10_hindranceToFit 76 = .ok (.iconst 1, 1) := by decide +kernel
theorem dX10_hindranceToFit_77 : decode cX10_hindranceToFit 77 = .ok (.iadd, 1) := by decide +kernel
theorem dX10_hindranceToFit_78 : decode cX10_hindranceToFit 78 = .ok (.laload, 1) := by decide +kernel
theorem dX10_hindranceToFit_79 : decode cX10_hindranceToFit 79 = .ok (.lstore 7, 2) := by decide +kernel
theorem dX10_hindranceToFit_81 : decode cX10_hindranceToFit 81 = .ok (.lload 5, 2) := by decide +kernel
theorem dX10_hindranceToFit_83 : decode cX10_hindranceToFit 83 = .ok (.lconst 0, 1) := by decide +kernel
theorem dX10_hindranceToFit_84 : decode cX10_hindranceToFit 84 = .ok (.lcmp, 1) := by decide +kernel
theorem dX10_hindranceToFit_85 : decode cX10_hindranceToFit 85 = .ok (.ifCond .lt 31, 3) := by decide +kernel
theorem dX10_hindranceToFit_88 : decode cX10_hindranceToFit 88 = .ok (.lload 5, 2) := by decide +kernel
theorem dX10_hindranceToFit_90 : decode cX10_hindranceToFit 90 = .ok (.aload_n 0, 1) := by decide +kernel
theorem dX10_hindranceToFit_91 : decode cX10_hindranceToFit 91 = .ok (.getfield 22, 3) := by decide +kernel
theorem dX10_hindranceToFit_94 : decode cX10_hindranceToFit 94 = .ok (.getfield 196, 3) := by decide +kernel
theorem dX10_hindranceToFit_97 : decode cX10_hindranceToFit 97 = .ok (.i2l, 1) := by decide +kernel
theorem dX10_hindranceToFit_98 : decode cX10_hindranceToFit 98 = .ok (.lcmp, 1) := by decide +kernel
theorem dX10_hindranceToFit_99 : decode cX10_hindranceToFit 99 = .ok (.ifCond .ge 17, 3) := by decide +kernel
theorem dX10_hindranceToFit_102 : decode cX10_hindranceToFit 102 = .ok (.lload 7, 2) := by decide +kernel
theorem dX10_hindranceToFit_104 : decode cX10_hindranceToFit 104 = .ok (.lconst 0, 1) := by decide +kernel
theorem dX10_hindranceToFit_105 : decode cX10_hindranceToFit 105 = .ok (.lcmp, 1) := by decide +kernel
theorem dX10_hindranceToFit_106 : decode cX10_hindranceToFit 106 = .ok (.ifCond .lt 10, 3) := by decide +kernel
theorem dX10_hindranceToFit_109 : decode cX10_hindranceToFit 109 = .ok (.lload 7, 2) := by decide +kernel
theorem dX10_hindranceToFit_111 : decode cX10_hindranceToFit 111 = .ok (.lconst 1, 1) := by decide +kernel
theorem dX10_hindranceToFit_112 : decode cX10_hindranceToFit 112 = .ok (.lcmp, 1) := by decide +kernel
theorem dX10_hindranceToFit_113 : decode cX10_hindranceToFit 113 = .ok (.ifCond .le 5, 3) := by decide +kernel
theorem dX10_hindranceToFit_116 : decode cX10_hindranceToFit 116 = .ok (.iconst 5, 1) := by decide +kernel
theorem dX10_hindranceToFit_117 : decode cX10_hindranceToFit 117 = .ok (.ireturn, 1) := by decide +kernel
theorem dX10_hindranceToFit_118 : decode cX10_hindranceToFit 118 = .ok (.iinc 4 1, 3) := by decide +kernel
theorem dX10_hindranceToFit_121 : decode cX10_hindranceToFit 121 = .ok (.goto (-70), 3) := by decide +kernel
theorem dX10_hindranceToFit_124 : decode cX10_hindranceToFit 124 = .ok (.iconst 0, 1) := by decide +kernel
theorem dX10_hindranceToFit_125 : decode cX10_hindranceToFit 125 = .ok (.ireturn, 1) := by decide +kernel
theorem dX10_fitting_0 : decode cX10_fitting 0 = .ok (.aload_n 0, 1) := by decide +kernel
theorem dX10_fitting_1 : decode cX10_fitting 1 = .ok (.getfield 22, 3) := by decide +kernel
theorem dX10_fitting_4 : decode cX10_fitting 4 = .ok (.invokevirtual 403, 3) := by decide +kernel
theorem dX10_fitting_7 : decode cX10_fitting 7 = .ok (.istore_n 3, 1) := by decide +kernel
theorem dX10_fitting_8 : decode cX10_fitting 8 = .ok (.iconst 0, 1) := by decide +kernel
theorem dX10_fitting_9 : decode cX10_fitting 9 = .ok (.istore 4, 2) := by decide +kernel
theorem dX10_fitting_11 : decode cX10_fitting 11 = .ok (.iload 4, 2) := by decide +kernel
theorem dX10_fitting_13 : decode cX10_fitting 13 = .ok (.iload_n 2, 1) := by decide +kernel
theorem dX10_fitting_14 : decode cX10_fitting 14 = .ok (.if_icmp .ge 57, 3) := by decide +kernel
theorem dX10_fitting_17 : decode cX10_fitting 17 = .ok (.aload_n 0, 1) := by decide +kernel
theorem dX10_fitting_18 : decode cX10_fitting 18 = .ok (.getfield 22, 3) := by decide +kernel
theorem dX10_fitting_21 : decode cX10_fitting 21 = .ok (.getfield 265, 3) := by decide +kernel
theorem dX10_fitting_24 : decode cX10_fitting 24 = .ok (.aload_n 1, 1) := by decide +kernel
theorem dX10_fitting_25 : decode cX10_fitting 25 = .ok (.getfield 155, 3) := by decide +kernel
theorem dX10_fitting_28 : decode cX10_fitting 28 = .ok (.iconst 2, 1) := by decide +kernel
theorem dX10_fitting_29 : decode cX10_fitting 29 = .ok (.iload 4, 2) := by decide +kernel
theorem dX10_fitting_31 : decode cX10_fitting 31 = .ok (.imul, 1) := by decide +kernel
theorem dX10_fitting_32 : decode cX10_fitting 32 = .ok (.laload, 1) := by decide +kernel
theorem dX10_fitting_33 : decode cX10_fitting 33 = .ok (.l2i, 1) := by decide +kernel
theorem dX10_fitting_34 : decode cX10_fitting 34 = .ok (.iaload, 1) := by decide +kernel
theorem dX10_fitting_35 : decode cX10_fitting 35 = .ok (.istore 5, 2) := by decide +kernel
theorem dX10_fitting_37 : decode cX10_fitting 37 = .ok (.iload_n 3, 1) := by decide +kernel
theorem dX10_fitting_38 : decode cX10_fitting 38 = .ok (.aload_n 1, 1) := by decide +kernel
theorem dX10_fitting_39 : decode cX10_fitting 39 = .ok (.getfield 155, 3) := by decide +kernel
theorem dX10_fitting_42 : decode cX10_fitting 42 = .ok (.iconst 2, 1) := by decide +kernel
theorem dX10_fitting_43 : decode cX10_fitting 43 = .ok (.iload 4, 2) := by decide +kernel
theorem dX10_fitting_45 : decode cX10_fitting 45 = .ok (.imul, 1) := by decide +kernel
theorem dX10_fitting_46 : decode cX10_fitting 46 = .ok (.iconst 1, 1) := by decide +kernel
theorem dX10_fitting_47 : decode cX10_fitting 47 = .ok (.iadd, 1) := by decide +kernel
theorem dX10_fitting_48 : decode cX10_fitting 48 = .ok (.laload, 1) := by decide +kernel
theorem dX10_fitting_49 : decode cX10_fitting 49 = .ok (.lconst 1, 1) := by decide +kernel
theorem dX10_fitting_50 : decode cX10_fitting 50 = .ok (.lcmp, 1) := by decide +kernel
theorem dX10_fitting_51 : decode cX10_fitting 51 = .ok (.ifCond .ne 8, 3) := by decide +kernel
theorem dX10_fitting_54 : decode cX10_fitting 54 = .ok (.iload 5, 2) := by decide +kernel
theorem dX10_fitting_56 : decode cX10_fitting 56 = .ok (.goto 7, 3) := by decide +kernel
theorem dX10_fitting_59 : decode cX10_fitting 59 = .ok (.iload 5, 2) := by decide +kernel
theorem dX10_fitting_61 : decode cX10_fitting 61 = .ok (.iconst (-1), 1) := by decide +kernel
theorem dX10_fitting_62 : decode cX10_fitting 62 = .ok (.ixor, 1) := by decide +kernel
theorem dX10_fitting_63 : decode cX10_fitting 63 = .ok (.iand, 1) := by decide +kernel
theorem dX10_fitting_64 : decode cX10_fitting 64 = .ok (.istore_n 3, 1) := by decide +kernel
theorem dX10_fitting_65 : decode cX10_fitting 65 = .ok (.iinc 4 1, 3) := by decide +kernel
theorem dX10_fitting_68 : decode cX10_fitting 68 = .ok (.goto (-57), 3) := by decide +kernel
theorem dX10_fitting_71 : decode cX10_fitting 71 = .ok (.iload_n 3, 1) := by decide +kernel
theorem dX10_fitting_72 : decode cX10_fitting 72 = .ok (.ireturn, 1) := by decide +kernel
theorem dX10_bestParting_0 : decode cX10_bestParting 0 = .ok (.iload_n 1, 1) := by decide +kernel
theorem dX10_bestParting_1 : decode cX10_bestParting 1 = .ok (.invokestatic 286, 3) := by decide +kernel
theorem dX10_bestParting_4 : decode cX10_bestParting 4 = .ok (.istore_n 2, 1) := by decide +kernel
theorem dX10_bestParting_5 : decode cX10_bestParting 5 = .ok (.iconst (-1), 1) := by decide +kernel
theorem dX10_bestParting_6 : decode cX10_bestParting 6 = .ok (.istore_n 3, 1) := by decide +kernel
theorem dX10_bestParting_7 : decode cX10_bestParting 7 = .ok (.iload_n 2, 1) := by decide +kernel
theorem dX10_bestParting_8 : decode cX10_bestParting 8 = .ok (.istore 4, 2) := by decide +kernel
theorem dX10_bestParting_10 : decode cX10_bestParting 10 = .ok (.iconst 0, 1) := by decide +kernel
theorem dX10_bestParting_11 : decode cX10_bestParting 11 = .ok (.istore 5, 2) := by decide +kernel
theorem dX10_bestParting_13 : decode cX10_bestParting 13 = .ok (.iload 5, 2) := by decide +kernel
theorem dX10_bestParting_15 : decode cX10_bestParting 15 = .ok (.aload_n 0, 1) := by decide +kernel
theorem dX10_bestParting_16 : decode cX10_bestParting 16 = .ok (.getfield 22, 3) := by decide +kernel
theorem dX10_bestParting_19 : decode cX10_bestParting 19 = .ok (.getfield 196, 3) := by decide +kernel
theorem dX10_bestParting_22 : decode cX10_bestParting 22 = .ok (.if_icmp .ge 51, 3) := by decide +kernel
theorem dX10_bestParting_25 : decode cX10_bestParting 25 = .ok (.iload_n 1, 1) := by decide +kernel
theorem dX10_bestParting_26 : decode cX10_bestParting 26 = .ok (.aload_n 0, 1) := by decide +kernel
theorem dX10_bestParting_27 : decode cX10_bestParting 27 = .ok (.getfield 22, 3) := by decide +kernel
theorem dX10_bestParting_30 : decode cX10_bestParting 30 = .ok (.getfield 265, 3) := by decide +kernel
theorem dX10_bestParting_33 : decode cX10_bestParting 33 = .ok (.iload 5, 2) := by decide +kernel
theorem dX10_bestParting_35 : decode cX10_bestParting 35 = .ok (.iaload, 1) := by decide +kernel
theorem dX10_bestParting_36 : decode cX10_bestParting 36 = .ok (.iand, 1) := by decide +kernel
theorem dX10_bestParting_37 : decode cX10_bestParting 37 = .ok (.invokestatic 286, 3) := by decide +kernel
theorem dX10_bestParting_40 : decode cX10_bestParting 40 = .ok (.istore 6, 2) := by decide +kernel
theorem dX10_bestParting_42 : decode cX10_bestParting 42 = .ok (.iload 6, 2) := by decide +kernel
theorem dX10_bestParting_44 : decode cX10_bestParting 44 = .ok (.iload_n 2, 1) := by decide +kernel
theorem dX10_bestParting_45 : decode cX10_bestParting 45 = .ok (.iload 6, 2) := by decide +kernel
theorem dX10_bestParting_47 : decode cX10_bestParting 47 = .ok (.isub, 1) := by decide +kernel
theorem dX10_bestParting_48 : decode cX10_bestParting 48 = .ok (.invokestatic 406, 3) := by decide +kernel
theorem dX10_bestParting_51 : decode cX10_bestParting 51 = .ok (.istore 7, 2) := by decide +kernel
theorem dX10_bestParting_53 : decode cX10_bestParting 53 = .ok (.iload 7, 2) := by decide +kernel
theorem dX10_bestParting_55 : decode cX10_bestParting 55 = .ok (.iload 4, 2) := by decide +kernel
theorem dX10_bestParting_57 : decode cX10_bestParting 57 = .ok (.if_icmp .ge 10, 3) := by decide +kernel
theorem dX10_bestParting_60 : decode cX10_bestParting 60 = .ok (.iload 7, 2) := by decide +kernel
theorem dX10_bestParting_62 : decode cX10_bestParting 62 = .ok (.istore 4, 2) := by decide +kernel
theorem dX10_bestParting_64 : decode cX10_bestParting 64 = .ok (.iload 5, 2) := by decide +kernel
theorem dX10_bestParting_66 : decode cX10_bestParting 66 = .ok (.istore_n 3, 1) := by decide +kernel
theorem dX10_bestParting_67 : decode cX10_bestParting 67 = .ok (.iinc 5 1, 3) := by decide +kernel
theorem dX10_bestParting_70 : decode cX10_bestParting 70 = .ok (.goto (-57), 3) := by decide +kernel
theorem dX10_bestParting_73 : decode cX10_bestParting 73 = .ok (.iload_n 3, 1) := by decide +kernel
theorem dX10_bestParting_74 : decode cX10_bestParting 74 = .ok (.ireturn, 1) := by decide +kernel
theorem dX10_fewestThatPart_0 : decode cX10_fewestThatPart 0 = .ok (.iconst (-1), 1) := by decide +kernel
theorem dX10_fewestThatPart_1 : decode cX10_fewestThatPart 1 = .ok (.istore_n 2, 1) := by decide +kernel
theorem dX10_fewestThatPart_2 : decode cX10_fewestThatPart 2 = .ok (.bipush 8, 2) := by decide +kernel
theorem dX10_fewestThatPart_4 : decode cX10_fewestThatPart 4 = .ok (.istore_n 3, 1) := by decide +kernel
theorem dX10_fewestThatPart_5 : decode cX10_fewestThatPart 5 = .ok (.iconst 0, 1) := by decide +kernel
theorem dX10_fewestThatPart_6 : decode cX10_fewestThatPart 6 = .ok (.istore 4, 2) := by decide +kernel
theorem dX10_fewestThatPart_8 : decode cX10_fewestThatPart 8 = .ok (.iload 4, 2) := by decide +kernel
theorem dX10_fewestThatPart_10 : decode cX10_fewestThatPart 10 = .ok (.iconst 1, 1) := by decide +kernel
theorem dX10_fewestThatPart_11 : decode cX10_fewestThatPart 11 = .ok (.aload_n 0, 1) := by decide +kernel
theorem dX10_fewestThatPart_12 : decode cX10_fewestThatPart 12 = .ok (.getfield 22, 3) := by decide +kernel
theorem dX10_fewestThatPart_15 : decode cX10_fewestThatPart 15 = .ok (.getfield 196, 3) := by decide +kernel
theorem dX10_fewestThatPart_18 : decode cX10_fewestThatPart 18 = .ok (.ishl, 1) := by decide +kernel
theorem dX10_fewestThatPart_19 : decode cX10_fewestThatPart 19 = .ok (.if_icmp .ge 41, 3) := by decide +kernel
theorem dX10_fewestThatPart_22 : decode cX10_fewestThatPart 22 = .ok (.iload 4, 2) := by decide +kernel
theorem dX10_fewestThatPart_24 : decode cX10_fewestThatPart 24 = .ok (.invokestatic 286, 3) := by decide +kernel
theorem dX10_fewestThatPart_27 : decode cX10_fewestThatPart 27 = .ok (.istore 5, 2) := by decide +kernel
theorem dX10_fewestThatPart_29 : decode cX10_fewestThatPart 29 = .ok (.iload 5, 2) := by decide +kernel
theorem dX10_fewestThatPart_31 : decode cX10_fewestThatPart 31 = .ok (.iload_n 3, 1) := by decide +kernel
theorem dX10_fewestThatPart_32 : decode cX10_fewestThatPart 32 = .ok (.if_icmp .ge 22, 3) := by decide +kernel
theorem dX10_fewestThatPart_35 : decode cX10_fewestThatPart 35 = .ok (.aload_n 0, 1) := by decide +kernel
theorem dX10_fewestThatPart_36 : decode cX10_fewestThatPart 36 = .ok (.getfield 22, 3) := by decide +kernel
theorem dX10_fewestThatPart_39 : decode cX10_fewestThatPart 39 = .ok (.iload_n 1, 1) := by decide +kernel
theorem dX10_fewestThatPart_40 : decode cX10_fewestThatPart 40 = .ok (.iload 4, 2) := by decide +kernel
theorem dX10_fewestThatPart_42 : decode cX10_fewestThatPart 42 = .ok (.invokevirtual 409, 3) := by decide +kernel
theorem dX10_fewestThatPart_45 : decode cX10_fewestThatPart 45 = .ok (.ifCond .eq 9, 3) := by decide +kernel
theorem dX10_fewestThatPart_48 : decode cX10_fewestThatPart 48 = .ok (.iload 5, 2) := by decide +kernel
theorem dX10_fewestThatPart_50 : decode cX10_fewestThatPart 50 = .ok (.istore_n 3, 1) := by decide +kernel
theorem dX10_fewestThatPart_51 : decode cX10_fewestThatPart 51 = .ok (.iload 4, 2) := by decide +kernel
theorem dX10_fewestThatPart_53 : decode cX10_fewestThatPart 53 = .ok (.istore_n 2, 1) := by decide +kernel
theorem dX10_fewestThatPart_54 : decode cX10_fewestThatPart 54 = .ok (.iinc 4 1, 3) := by decide +kernel
theorem dX10_fewestThatPart_57 : decode cX10_fewestThatPart 57 = .ok (.goto (-49), 3) := by decide +kernel
theorem dX10_fewestThatPart_60 : decode cX10_fewestThatPart 60 = .ok (.iload_n 2, 1) := by decide +kernel
theorem dX10_fewestThatPart_61 : decode cX10_fewestThatPart 61 = .ok (.ireturn, 1) := by decide +kernel
theorem dX10_waysToTake_0 : decode cX10_waysToTake 0 = .ok (.lconst 1, 1) := by decide +kernel
theorem dX10_waysToTake_1 : decode cX10_waysToTake 1 = .ok (.lstore_n 2, 1) := by decide +kernel
theorem dX10_waysToTake_2 : decode cX10_waysToTake 2 = .ok (.iconst 0, 1) := by decide +kernel
theorem dX10_waysToTake_3 : decode cX10_waysToTake 3 = .ok (.istore 4, 2) := by decide +kernel
theorem dX10_waysToTake_5 : decode cX10_waysToTake 5 = .ok (.iload 4, 2) := by decide +kernel
theorem dX10_waysToTake_7 : decode cX10_waysToTake 7 = .ok (.iload_n 1, 1) := by decide +kernel
theorem dX10_waysToTake_8 : decode cX10_waysToTake 8 = .ok (.if_icmp .ge 23, 3) := by decide +kernel
theorem dX10_waysToTake_11 : decode cX10_waysToTake 11 = .ok (.lload_n 2, 1) := by decide +kernel
theorem dX10_waysToTake_12 : decode cX10_waysToTake 12 = .ok (.iload_n 0, 1) := by decide +kernel
theorem dX10_waysToTake_13 : decode cX10_waysToTake 13 = .ok (.iload 4, 2) := by decide +kernel
theorem dX10_waysToTake_15 : decode cX10_waysToTake 15 = .ok (.isub, 1) := by decide +kernel
theorem dX10_waysToTake_16 : decode cX10_waysToTake 16 = .ok (.i2l, 1) := by decide +kernel
theorem dX10_waysToTake_17 : decode cX10_waysToTake 17 = .ok (.lmul, 1) := by decide +kernel
theorem dX10_waysToTake_18 : decode cX10_waysToTake 18 = .ok (.iload 4, 2) := by decide +kernel
theorem dX10_waysToTake_20 : decode cX10_waysToTake 20 = .ok (.iconst 1, 1) := by decide +kernel
theorem dX10_waysToTake_21 : decode cX10_waysToTake 21 = .ok (.iadd, 1) := by decide +kernel
theorem dX10_waysToTake_22 : decode cX10_waysToTake 22 = .ok (.i2l, 1) := by decide +kernel
theorem dX10_waysToTake_23 : decode cX10_waysToTake 23 = .ok (.ldiv, 1) := by decide +kernel
theorem dX10_waysToTake_24 : decode cX10_waysToTake 24 = .ok (.lstore_n 2, 1) := by decide +kernel
theorem dX10_waysToTake_25 : decode cX10_waysToTake 25 = .ok (.iinc 4 1, 3) := by decide +kernel
theorem dX10_waysToTake_28 : decode cX10_waysToTake 28 = .ok (.goto (-23), 3) := by decide +kernel
theorem dX10_waysToTake_31 : decode cX10_waysToTake 31 = .ok (.lload_n 2, 1) := by decide +kernel
theorem dX10_waysToTake_32 : decode cX10_waysToTake 32 = .ok (.lreturn, 1) := by decide +kernel
theorem dX10_indexOfName_0 : decode cX10_indexOfName 0 = .ok (.iconst 0, 1) := by decide +kernel
theorem dX10_indexOfName_1 : decode cX10_indexOfName 1 = .ok (.istore 4, 2) := by decide +kernel
theorem dX10_indexOfName_3 : decode cX10_indexOfName 3 = .ok (.iload 4, 2) := by decide +kernel
theorem dX10_indexOfName_5 : decode cX10_indexOfName 5 = .ok (.iload_n 1, 1) := by decide +kernel
theorem dX10_indexOfName_6 : decode cX10_indexOfName 6 = .ok (.if_icmp .ge 21, 3) := by decide +kernel
theorem dX10_indexOfName_9 : decode cX10_indexOfName 9 = .ok (.aload_n 0, 1) := by decide +kernel
theorem dX10_indexOfName_10 : decode cX10_indexOfName 10 = .ok (.iload 4, 2) := by decide +kernel
theorem dX10_indexOfName_12 : decode cX10_indexOfName 12 = .ok (.laload, 1) := by decide +kernel
theorem dX10_indexOfName_13 : decode cX10_indexOfName 13 = .ok (.lload_n 2, 1) := by decide +kernel
theorem dX10_indexOfName_14 : decode cX10_indexOfName 14 = .ok (.lcmp, 1) := by decide +kernel
theorem dX10_indexOfName_15 : decode cX10_indexOfName 15 = .ok (.ifCond .ne 6, 3) := by decide +kernel
theorem dX10_indexOfName_18 : decode cX10_indexOfName 18 = .ok (.iload 4, 2) := by decide +kernel
theorem dX10_indexOfName_20 : decode cX10_indexOfName 20 = .ok (.ireturn, 1) := by decide +kernel
theorem dX10_indexOfName_21 : decode cX10_indexOfName 21 = .ok (.iinc 4 1, 3) := by decide +kernel
theorem dX10_indexOfName_24 : decode cX10_indexOfName 24 = .ok (.goto (-21), 3) := by decide +kernel
theorem dX10_indexOfName_27 : decode cX10_indexOfName 27 = .ok (.iconst (-1), 1) := by decide +kernel
theorem dX10_indexOfName_28 : decode cX10_indexOfName 28 = .ok (.ireturn, 1) := by decide +kernel
