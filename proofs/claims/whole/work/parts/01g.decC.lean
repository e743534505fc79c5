theorem dX11_init_0 : decode cX11_init 0 = .ok (.aload_n 0, 1) := by decide +kernel
theorem dX11_init_1 : decode cX11_init 1 = .ok (.invokespecial 1, 3) := by decide +kernel
theorem dX11_init_4 : decode cX11_init 4 = .ok (.aload_n 0, 1) := by decide +kernel
theorem dX11_init_5 : decode cX11_init 5 = .ok (.sipush 2200, 3) := by decide +kernel
theorem dX11_init_8 : decode cX11_init 8 = .ok (.newarray .int, 2) := by decide +kernel
theorem dX11_init_10 : decode cX11_init 10 = .ok (.putfield 7, 3) := by decide +kernel
theorem dX11_init_13 : decode cX11_init 13 = .ok (.aload_n 0, 1) := by decide +kernel
theorem dX11_init_14 : decode cX11_init 14 = .ok (.bipush 114, 2) := by decide +kernel
theorem dX11_init_16 : decode cX11_init 16 = .ok (.newarray .long, 2) := by decide +kernel
theorem dX11_init_18 : decode cX11_init 18 = .ok (.putfield 13, 3) := by decide +kernel
theorem dX11_init_21 : decode cX11_init 21 = .ok (.aload_n 0, 1) := by decide +kernel
theorem dX11_init_22 : decode cX11_init 22 = .ok (.lconst 1, 1) := by decide +kernel
theorem dX11_init_23 : decode cX11_init 23 = .ok (.putfield 17, 3) := by decide +kernel
theorem dX11_init_26 : decode cX11_init 26 = .ok (.aload_n 0, 1) := by decide +kernel
theorem dX11_init_27 : decode cX11_init 27 = .ok (.iconst 4, 1) := by decide +kernel
theorem dX11_init_28 : decode cX11_init 28 = .ok (.newarray .int, 2) := by decide +kernel
theorem dX11_init_30 : decode cX11_init 30 = .ok (.putfield 21, 3) := by decide +kernel
theorem dX11_init_33 : decode cX11_init 33 = .ok (.aload_n 0, 1) := by decide +kernel
theorem dX11_init_34 : decode cX11_init 34 = .ok (.iconst 4, 1) := by decide +kernel
theorem dX11_init_35 : decode cX11_init 35 = .ok (.newarray .int, 2) := by decide +kernel
theorem dX11_init_37 : decode cX11_init 37 = .ok (.dup, 1) := by decide +kernel
theorem dX11_init_38 : decode cX11_init 38 = .ok (.iconst 0, 1) := by decide +kernel
theorem dX11_init_39 : decode cX11_init 39 = .ok (.iconst (-1), 1) := by decide +kernel
theorem dX11_init_40 : decode cX11_init 40 = .ok (.iastore, 1) := by decide +kernel
theorem dX11_init_41 : decode cX11_init 41 = .ok (.dup, 1) := by decide +kernel
theorem dX11_init_42 : decode cX11_init 42 = .ok (.iconst 1, 1) := by decide +kernel
theorem dX11_init_43 : decode cX11_init 43 = .ok (.iconst (-1), 1) := by decide +kernel
theorem dX11_init_44 : decode cX11_init 44 = .ok (.iastore, 1) := by decide +kernel
theorem dX11_init_45 : decode cX11_init 45 = .ok (.dup, 1) := by decide +kernel
theorem dX11_init_46 : decode cX11_init 46 = .ok (.iconst 2, 1) := by decide +kernel
theorem dX11_init_47 : decode cX11_init 47 = .ok (.iconst (-1), 1) := by decide +kernel
theorem dX11_init_48 : decode cX11_init 48 = .ok (.iastore, 1) := by decide +kernel
theorem dX11_init_49 : decode cX11_init 49 = .ok (.dup, 1) := by decide +kernel
theorem dX11_init_50 : decode cX11_init 50 = .ok (.iconst 3, 1) := by decide +kernel
theorem dX11_init_51 : decode cX11_init 51 = .ok (.iconst (-1), 1) := by decide +kernel
theorem dX11_init_52 : decode cX11_init 52 = .ok (.iastore, 1) := by decide +kernel
theorem dX11_init_53 : decode cX11_init 53 = .ok (.putfield 24, 3) := by decide +kernel
theorem dX11_init_56 : decode cX11_init 56 = .ok (.aload_n 0, 1) := by decide +kernel
theorem dX11_init_57 : decode cX11_init 57 = .ok (.sipush 240, 3) := by decide +kernel
theorem dX11_init_60 : decode cX11_init 60 = .ok (.newarray .long, 2) := by decide +kernel
theorem dX11_init_62 : decode cX11_init 62 = .ok (.putfield 27, 3) := by decide +kernel
theorem dX11_init_65 : decode cX11_init 65 = .ok (.aload_n 0, 1) := by decide +kernel
theorem dX11_init_66 : decode cX11_init 66 = .ok (.sipush 900, 3) := by decide +kernel
theorem dX11_init_69 : decode cX11_init 69 = .ok (.newarray .byte, 2) := by decide +kernel
theorem dX11_init_71 : decode cX11_init 71 = .ok (.putfield 30, 3) := by decide +kernel
theorem dX11_init_74 : decode cX11_init 74 = .ok (.aload_n 0, 1) := by decide +kernel
theorem dX11_init_75 : decode cX11_init 75 = .ok (.sipush 900, 3) := by decide +kernel
theorem dX11_init_78 : decode cX11_init 78 = .ok (.newarray .byte, 2) := by decide +kernel
theorem dX11_init_80 : decode cX11_init 80 = .ok (.putfield 34, 3) := by decide +kernel
theorem dX11_init_83 : decode cX11_init 83 = .ok (.aload_n 0, 1) := by decide +kernel
theorem dX11_init_84 : decode cX11_init 84 = .ok (.iconst (-1), 1) := by decide +kernel
theorem dX11_init_85 : decode cX11_init 85 = .ok (.putfield 37, 3) := by decide +kernel
theorem dX11_init_88 : decode cX11_init 88 = .ok (.aload_n 0, 1) := by decide +kernel
theorem dX11_init_89 : decode cX11_init 89 = .ok (.iconst (-1), 1) := by decide +kernel
theorem dX11_init_90 : decode cX11_init 90 = .ok (.putfield 41, 3) := by decide +kernel
theorem dX11_init_93 : decode cX11_init 93 = .ok (.aload_n 0, 1) := by decide +kernel
theorem dX11_init_94 : decode cX11_init 94 = .ok (.iconst 3, 1) := by decide +kernel
theorem dX11_init_95 : decode cX11_init 95 = .ok (.newarray .int, 2) := by decide +kernel
theorem dX11_init_97 : decode cX11_init 97 = .ok (.putfield 44, 3) := by decide +kernel
theorem dX11_init_100 : decode cX11_init 100 = .ok (.aload_n 0, 1) := by decide +kernel
theorem dX11_init_101 : decode cX11_init 101 = .ok (.iconst 4, 1) := by decide +kernel
theorem dX11_init_102 : decode cX11_init 102 = .ok (.newarray .int, 2) := by decide +kernel
theorem dX11_init_104 : decode cX11_init 104 = .ok (.putfield 47, 3) := by decide +kernel
theorem dX11_init_107 : decode cX11_init 107 = .ok (.aload_n 0, 1) := by decide +kernel
theorem dX11_init_108 : decode cX11_init 108 = .ok (.iconst 4, 1) := by decide +kernel
theorem dX11_init_109 : decode cX11_init 109 = .ok (.newarray .int, 2) := by decide +kernel
theorem dX11_init_111 : decode cX11_init 111 = .ok (.putfield 50, 3) := by decide +kernel
theorem dX11_init_114 : decode cX11_init 114 = .ok (.aload_n 0, 1) := by decide +kernel
theorem dX11_init_115 : decode cX11_init 115 = .ok (.iconst 4, 1) := by decide +kernel
theorem dX11_init_116 : decode cX11_init 116 = .ok (.newarray .int, 2) := by decide +kernel
theorem dX11_init_118 : decode cX11_init 118 = .ok (.putfield 53, 3) := by decide +kernel
theorem dX11_init_121 : decode cX11_init 121 = .ok (.aload_n 0, 1) := by decide +kernel
theorem dX11_init_122 : decode cX11_init 122 = .ok (.iconst 3, 1) := by decide +kernel
theorem dX11_init_123 : decode cX11_init 123 = .ok (.newarray .int, 2) := by decide +kernel
theorem dX11_init_125 : decode cX11_init 125 = .ok (.putfield 56, 3) := by decide +kernel
theorem dX11_init_128 : decode cX11_init 128 = .ok (.aload_n 0, 1) := by decide +kernel
theorem dX11_init_129 : decode cX11_init 129 = .ok (.sipush 256, 3) := by decide +kernel
theorem dX11_init_132 : decode cX11_init 132 = .ok (.newarray .int, 2) := by decide +kernel
theorem dX11_init_134 : decode cX11_init 134 = .ok (.putfield 59, 3) := by decide +kernel
theorem dX11_init_137 : decode cX11_init 137 = .ok (.aload_n 0, 1) := by decide +kernel
theorem dX11_init_138 : decode cX11_init 138 = .ok (.sipush 256, 3) := by decide +kernel
theorem dX11_init_141 : decode cX11_init 141 = .ok (.newarray .int, 2) := by decide +kernel
theorem dX11_init_143 : decode cX11_init 143 = .ok (.putfield 62, 3) := by decide +kernel
theorem dX11_init_146 : decode cX11_init 146 = .ok (.aload_n 0, 1) := by decide +kernel
theorem dX11_init_147 : decode cX11_init 147 = .ok (.iconst 5, 1) := by decide +kernel
theorem dX11_init_148 : decode cX11_init 148 = .ok (.newarray .int, 2) := by decide +kernel
theorem dX11_init_150 : decode cX11_init 150 = .ok (.putfield 65, 3) := by decide +kernel
theorem dX11_init_153 : decode cX11_init 153 = .ok (.aload_n 0, 1) := by decide +kernel
theorem dX11_init_154 : decode cX11_init 154 = .ok (.iconst 5, 1) := by decide +kernel
theorem dX11_init_155 : decode cX11_init 155 = .ok (.newarray .int, 2) := by decide +kernel
theorem dX11_init_157 : decode cX11_init 157 = .ok (.putfield 68, 3) := by decide +kernel
theorem dX11_init_160 : decode cX11_init 160 = .ok (.aload_n 0, 1) := by decide +kernel
theorem dX11_init_161 : decode cX11_init 161 = .ok (.iconst 5, 1) := by decide +kernel
theorem dX11_init_162 : decode cX11_init 162 = .ok (.newarray .int, 2) := by decide +kernel
theorem dX11_init_164 : decode cX11_init 164 = .ok (.putfield 71, 3) := by decide +kernel
theorem dX11_init_167 : decode cX11_init 167 = .ok (.aload_n 0, 1) := by decide +kernel
theorem dX11_init_168 : decode cX11_init 168 = .ok (.iconst 5, 1) := by decide +kernel
theorem dX11_init_169 : decode cX11_init 169 = .ok (.newarray .int, 2) := by decide +kernel
theorem dX11_init_171 : decode cX11_init 171 = .ok (.putfield 74, 3) := by decide +kernel
theorem dX11_init_174 : decode cX11_init 174 = .ok (.aload_n 0, 1) := by decide +kernel
theorem dX11_init_175 : decode cX11_init 175 = .ok (.iconst 5, 1) := by decide +kernel
theorem dX11_init_176 : decode cX11_init 176 = .ok (.newarray .int, 2) := by decide +kernel
theorem dX11_init_178 : decode cX11_init 178 = .ok (.putfield 77, 3) := by decide +kernel
theorem dX11_init_181 : decode cX11_init 181 = .ok (.aload_n 0, 1) := by decide +kernel
theorem dX11_init_182 : decode cX11_init 182 = .ok (.bipush 80, 2) := by decide +kernel
theorem dX11_init_184 : decode cX11_init 184 = .ok (.newarray .int, 2) := by decide +kernel
theorem dX11_init_186 : decode cX11_init 186 = .ok (.putfield 80, 3) := by decide +kernel
theorem dX11_init_189 : decode cX11_init 189 = .ok (.aload_n 0, 1) := by decide +kernel
theorem dX11_init_190 : decode cX11_init 190 = .ok (.iconst 5, 1) := by decide +kernel
theorem dX11_init_191 : decode cX11_init 191 = .ok (.newarray .int, 2) := by decide +kernel
theorem dX11_init_193 : decode cX11_init 193 = .ok (.putfield 83, 3) := by decide +kernel
theorem dX11_init_196 : decode cX11_init 196 = .ok (.aload_n 0, 1) := by decide +kernel
theorem dX11_init_197 : decode cX11_init 197 = .ok (.iconst 5, 1) := by decide +kernel
theorem dX11_init_198 : decode cX11_init 198 = .ok (.newarray .int, 2) := by decide +kernel
theorem dX11_init_200 : decode cX11_init 200 = .ok (.putfield 86, 3) := by decide +kernel
theorem dX11_init_203 : decode cX11_init 203 = .ok (.aload_n 0, 1) := by decide +kernel
theorem dX11_init_204 : decode cX11_init 204 = .ok (.iconst 0, 1) := by decide +kernel
theorem dX11_init_205 : decode cX11_init 205 = .ok (.invokevirtual 89, 3) := by decide +kernel
theorem dX11_init_208 : decode cX11_init 208 = .ok (.return_, 1) := by decide +kernel
theorem dX11_plain_0 : decode cX11_plain 0 = .ok (.iconst 0, 1) := by decide +kernel
theorem dX11_plain_1 : decode cX11_plain 1 = .ok (.istore_n 2, 1) := by decide +kernel
theorem dX11_plain_2 : decode cX11_plain 2 = .ok (.iload_n 2, 1) := by decide +kernel
theorem dX11_plain_3 : decode cX11_plain 3 = .ok (.sipush 428, 3) := by decide +kernel
theorem dX11_plain_6 : decode cX11_plain 6 = .ok (.if_icmp .ge 18, 3) := by decide +kernel
theorem dX11_plain_9 : decode cX11_plain 9 = .ok (.aload_n 0, 1) := by decide +kernel
theorem dX11_plain_10 : decode cX11_plain 10 = .ok (.getfield 7, 3) := by decide +kernel
theorem dX11_plain_13 : decode cX11_plain 13 = .ok (.iload_n 1, 1) := by decide +kernel
theorem dX11_plain_14 : decode cX11_plain 14 = .ok (.iload_n 2, 1) := by decide +kernel
theorem dX11_plain_15 : decode cX11_plain 15 = .ok (.iadd, 1) := by decide +kernel
theorem dX11_plain_16 : decode cX11_plain 16 = .ok (.iconst 0, 1) := by decide +kernel
theorem dX11_plain_17 : decode cX11_plain 17 = .ok (.iastore, 1) := by decide +kernel
theorem dX11_plain_18 : decode cX11_plain 18 = .ok (.iinc 2 1, 3) := by decide +kernel
theorem dX11_plain_21 : decode cX11_plain 21 = .ok (.goto (-19), 3) := by decide +kernel
theorem dX11_plain_24 : decode cX11_plain 24 = .ok (.aload_n 0, 1) := by decide +kernel
theorem dX11_plain_25 : decode cX11_plain 25 = .ok (.getfield 7, 3) := by decide +kernel
theorem dX11_plain_28 : decode cX11_plain 28 = .ok (.iload_n 1, 1) := by decide +kernel
theorem dX11_plain_29 : decode cX11_plain 29 = .ok (.iconst 4, 1) := by decide +kernel
theorem dX11_plain_30 : decode cX11_plain 30 = .ok (.iadd, 1) := by decide +kernel
theorem dX11_plain_31 : decode cX11_plain 31 = .ok (.bipush 8, 2) := by decide +kernel
theorem dX11_plain_33 : decode cX11_plain 33 = .ok (.iastore, 1) := by decide +kernel
theorem dX11_plain_34 : decode cX11_plain 34 = .ok (.aload_n 0, 1) := by decide +kernel
theorem dX11_plain_35 : decode cX11_plain 35 = .ok (.getfield 7, 3) := by decide +kernel
theorem dX11_plain_38 : decode cX11_plain 38 = .ok (.iload_n 1, 1) := by decide +kernel
theorem dX11_plain_39 : decode cX11_plain 39 = .ok (.bipush 7, 2) := by decide +kernel
theorem dX11_plain_41 : decode cX11_plain 41 = .ok (.iadd, 1) := by decide +kernel
theorem dX11_plain_42 : decode cX11_plain 42 = .ok (.iconst (-1), 1) := by decide +kernel
theorem dX11_plain_43 : decode cX11_plain 43 = .ok (.iastore, 1) := by decide +kernel
theorem dX11_plain_44 : decode cX11_plain 44 = .ok (.return_, 1) := by decide +kernel
theorem dX11_status_0 : decode cX11_status 0 = .ok (.aload_n 0, 1) := by decide +kernel
theorem dX11_status_1 : decode cX11_status 1 = .ok (.getfield 93, 3) := by decide +kernel
theorem dX11_status_4 : decode cX11_status 4 = .ok (.ireturn, 1) := by decide +kernel
theorem dX11_top_0 : decode cX11_top 0 = .ok (.aload_n 0, 1) := by decide +kernel
theorem dX11_top_1 : decode cX11_top 1 = .ok (.getfield 96, 3) := by decide +kernel
theorem dX11_top_4 : decode cX11_top 4 = .ok (.lreturn, 1) := by decide +kernel
theorem dX11_bottom_0 : decode cX11_bottom 0 = .ok (.aload_n 0, 1) := by decide +kernel
theorem dX11_bottom_1 : decode cX11_bottom 1 = .ok (.getfield 17, 3) := by decide +kernel
theorem dX11_bottom_4 : decode cX11_bottom 4 = .ok (.lreturn, 1) := by decide +kernel
theorem dX11_is_0 : decode cX11_is 0 = .ok (.aload_n 0, 1) := by decide +kernel
theorem dX11_is_1 : decode cX11_is 1 = .ok (.iload_n 1, 1) := by decide +kernel
theorem dX11_is_2 : decode cX11_is 2 = .ok (.putfield 93, 3) := by decide +kernel
theorem dX11_is_5 : decode cX11_is 5 = .ok (.iload_n 1, 1) := by decide +kernel
theorem dX11_is_6 : decode cX11_is 6 = .ok (.ifCond .ne 7, 3) := by decide +kernel
theorem dX11_is_9 : decode cX11_is 9 = .ok (.iconst 1, 1) := by decide +kernel
theorem dX11_is_10 : decode cX11_is 10 = .ok (.goto 4, 3) := by decide +kernel
theorem dX11_is_13 : decode cX11_is 13 = .ok (.iconst 0, 1) := by decide +kernel
theorem dX11_is_14 : decode cX11_is 14 = .ok (.ireturn, 1) := by decide +kernel
theorem dX11_refuse_0 : decode cX11_refuse 0 = .ok (.aload_n 0, 1) := by decide +kernel
theorem dX11_refuse_1 : decode cX11_refuse 1 = .ok (.iload_n 1, 1) := by decide +kernel
theorem dX11_refuse_2 : decode cX11_refuse 2 = .ok (.putfield 93, 3) := by decide +kernel
theorem dX11_refuse_5 : decode cX11_refuse 5 = .ok (.iconst (-1), 1) := by decide +kernel
theorem dX11_refuse_6 : decode cX11_refuse 6 = .ok (.ireturn, 1) := by decide +kernel
theorem dX11_gives_0 : decode cX11_gives 0 = .ok (.aload_n 0, 1) := by decide +kernel
theorem dX11_gives_1 : decode cX11_gives 1 = .ok (.iconst 0, 1) := by decide +kernel
theorem dX11_gives_2 : decode cX11_gives 2 = .ok (.putfield 93, 3) := by decide +kernel
theorem dX11_gives_5 : decode cX11_gives 5 = .ok (.iload_n 1, 1) := by decide +kernel
theorem dX11_gives_6 : decode cX11_gives 6 = .ok (.ireturn, 1) := by decide +kernel
theorem dX11_orNone_0 : decode cX11_orNone 0 = .ok (.iload_n 1, 1) := by decide +kernel
theorem dX11_orNone_1 : decode cX11_orNone 1 = .ok (.iconst (-1), 1) := by decide +kernel
theorem dX11_orNone_2 : decode cX11_orNone 2 = .ok (.if_icmp .ne 10, 3) := by decide +kernel
theorem dX11_orNone_5 : decode cX11_orNone 5 = .ok (.aload_n 0, 1) := by decide +kernel
theorem dX11_orNone_6 : decode cX11_orNone 6 = .ok (.bipush 6, 2) := by decide +kernel
theorem dX11_orNone_8 : decode cX11_orNone 8 = .ok (.invokevirtual 99, 3) := by decide +kernel
theorem dX11_orNone_11 : decode cX11_orNone 11 = .ok (.ireturn, 1) := by decide +kernel
theorem dX11_orNone_12 : decode cX11_orNone 12 = .ok (.aload_n 0, 1) := by decide +kernel
theorem dX11_orNone_13 : decode cX11_orNone 13 = .ok (.iload_n 1, 1) := by decide +kernel
theorem dX11_orNone_14 : decode cX11_orNone 14 = .ok (.invokevirtual 103, 3) := by decide +kernel
theorem dX11_orNone_17 : decode cX11_orNone 17 = .ok (.ireturn, 1) := by decide +kernel
theorem dX11_tellsBy_0 : decode cX11_tellsBy 0 = .ok (.lload_n 1, 1) := by decide +kernel
theorem dX11_tellsBy_1 : decode cX11_tellsBy 1 = .ok (.lstore 5, 2) := by decide +kernel
theorem dX11_tellsBy_3 : decode cX11_tellsBy 3 = .ok (.lload_n 3, 1) := by decide +kernel
theorem dX11_tellsBy_4 : decode cX11_tellsBy 4 = .ok (.lstore 7, 2) := by decide +kernel
theorem dX11_tellsBy_6 : decode cX11_tellsBy 6 = .ok (.lload 7, 2) := by decide +kernel
theorem dX11_tellsBy_8 : decode cX11_tellsBy 8 = .ok (.lconst 0, 1) := by decide +kernel
theorem dX11_tellsBy_9 : decode cX11_tellsBy 9 = .ok (.lcmp, 1) := by decide +kernel
theorem dX11_tellsBy_10 : decode cX11_tellsBy 10 = .ok (.ifCond .eq 21, 3) := by decide +kernel
theorem dX11_tellsBy_13 : decode cX11_tellsBy 13 = .ok (.lload 5, 2) := by decide +kernel
theorem dX11_tellsBy_15 : decode cX11_tellsBy 15 = .ok (.lload 7, 2) := by decide +kernel
theorem dX11_tellsBy_17 : decode cX11_tellsBy 17 = .ok (.lrem, 1) := by decide +kernel
theorem dX11_tellsBy_18 : decode cX11_tellsBy 18 = .ok (.lstore 9, 2) := by decide +kernel
theorem dX11_tellsBy_20 : decode cX11_tellsBy 20 = .ok (.lload 7, 2) := by decide +kernel
theorem dX11_tellsBy_22 : decode cX11_tellsBy 22 = .ok (.lstore 5, 2) := by decide +kernel
theorem dX11_tellsBy_24 : decode cX11_tellsBy 24 = .ok (.lload 9, 2) := by decide +kernel
theorem dX11_tellsBy_26 : decode cX11_tellsBy 26 = .ok (.lstore 7, 2) := by decide +kernel
theorem dX11_tellsBy_28 : decode cX11_tellsBy 28 = .ok (.goto (-22), 3) := by decide +kernel
theorem dX11_tellsBy_31 : decode cX11_tellsBy 31 = .ok (.aload_n 0, 1) := by decide +kernel
theorem dX11_tellsBy_32 : decode cX11_tellsBy 32 = .ok (.lload_n 1, 1) := by decide +kernel
theorem dX11_tellsBy_33 : decode cX11_tellsBy 33 = .ok (.lload 5, 2) := by decide +kernel
theorem dX11_tellsBy_35 : decode cX11_tellsBy 35 = .ok (.ldiv, 1) := by decide +kernel
theorem dX11_tellsBy_36 : decode cX11_tellsBy 36 = .ok (.putfield 96, 3) := by decide +kernel
theorem dX11_tellsBy_39 : decode cX11_tellsBy 39 = .ok (.aload_n 0, 1) := by decide +kernel
theorem dX11_tellsBy_40 : decode cX11_tellsBy 40 = .ok (.lload_n 3, 1) := by decide +kernel
theorem dX11_tellsBy_41 : decode cX11_tellsBy 41 = .ok (.lload 5, 2) := by decide +kernel
theorem dX11_tellsBy_43 : decode cX11_tellsBy 43 = .ok (.ldiv, 1) := by decide +kernel
theorem dX11_tellsBy_44 : decode cX11_tellsBy 44 = .ok (.putfield 17, 3) := by decide +kernel
theorem dX11_tellsBy_47 : decode cX11_tellsBy 47 = .ok (.aload_n 0, 1) := by decide +kernel
theorem dX11_tellsBy_48 : decode cX11_tellsBy 48 = .ok (.iconst 0, 1) := by decide +kernel
theorem dX11_tellsBy_49 : decode cX11_tellsBy 49 = .ok (.invokevirtual 106, 3) := by decide +kernel
theorem dX11_tellsBy_52 : decode cX11_tellsBy 52 = .ok (.ireturn, 1) := by decide +kernel
theorem dX11_isTray_0 : decode cX11_isTray 0 = .ok (.iload_n 0, 1) := by decide +kernel
theorem dX11_isTray_1 : decode cX11_isTray 1 = .ok (.ifCond .lt 12, 3) := by decide +kernel
theorem dX11_isTray_4 : decode cX11_isTray 4 = .ok (.iload_n 0, 1) := by decide +kernel
theorem dX11_isTray_5 : decode cX11_isTray 5 = .ok (.iconst 4, 1) := by decide +kernel
theorem dX11_isTray_6 : decode cX11_isTray 6 = .ok (.if_icmp .ge 7, 3) := by decide +kernel
theorem dX11_isTray_9 : decode cX11_isTray 9 = .ok (.iconst 1, 1) := by decide +kernel
theorem dX11_isTray_10 : decode cX11_isTray 10 = .ok (.goto 4, 3) := by decide +kernel
theorem dX11_isTray_13 : decode cX11_isTray 13 = .ok (.iconst 0, 1) := by decide +kernel
theorem dX11_isTray_14 : decode cX11_isTray 14 = .ok (.ireturn, 1) := by decide +kernel
theorem dX11_cut_0 : decode cX11_cut 0 = .ok (.iload_n 2, 1) := by decide +kernel
theorem dX11_cut_1 : decode cX11_cut 1 = .ok (.ifCond .ne 10, 3) := by decide +kernel
theorem dX11_cut_4 : decode cX11_cut 4 = .ok (.lload_n 0, 1) := by decide +kernel
theorem dX11_cut_5 : decode cX11_cut 5 = .ok (.l2i, 1) := by decide +kernel
theorem dX11_cut_6 : decode cX11_cut 6 = .ok (.i2b, 1) := by decide +kernel
theorem dX11_cut_7 : decode cX11_cut 7 = .ok (.i2l, 1) := by decide +kernel
theorem dX11_cut_8 : decode cX11_cut 8 = .ok (.goto 27, 3) := by decide +kernel
theorem dX11_cut_11 : decode cX11_cut 11 = .ok (.iload_n 2, 1) := by decide +kernel
theorem dX11_cut_12 : decode cX11_cut 12 = .ok (.iconst 1, 1) := by decide +kernel
theorem dX11_cut_13 : decode cX11_cut 13 = .ok (.if_icmp .ne 10, 3) := by decide +kernel
theorem dX11_cut_16 : decode cX11_cut 16 = .ok (.lload_n 0, 1) := by decide +kernel
theorem dX11_cut_17 : decode cX11_cut 17 = .ok (.l2i, 1) := by decide +kernel
theorem dX11_cut_18 : decode cX11_cut 18 = .ok (.i2s, 1) := by decide +kernel
theorem dX11_cut_19 : decode cX11_cut 19 = .ok (.i2l, 1) := by decide +kernel
theorem dX11_cut_20 : decode cX11_cut 20 = .ok (.goto 15, 3) := by decide +kernel
theorem dX11_cut_23 : decode cX11_cut 23 = .ok (.iload_n 2, 1) := by decide +kernel
theorem dX11_cut_24 : decode cX11_cut 24 = .ok (.iconst 2, 1) := by decide +kernel
theorem dX11_cut_25 : decode cX11_cut 25 = .ok (.if_icmp .ne 9, 3) := by decide +kernel
theorem dX11_cut_28 : decode cX11_cut 28 = .ok (.lload_n 0, 1) := by decide +kernel
theorem dX11_cut_29 : decode cX11_cut 29 = .ok (.l2i, 1) := by decide +kernel
theorem dX11_cut_30 : decode cX11_cut 30 = .ok (.i2l, 1) := by decide +kernel
theorem dX11_cut_31 : decode cX11_cut 31 = .ok (.goto 4, 3) := by decide +kernel
theorem dX11_cut_34 : decode cX11_cut 34 = .ok (.lload_n 0, 1) := by decide +kernel
theorem dX11_cut_35 : decode cX11_cut 35 = .ok (.lreturn, 1) := by decide +kernel
theorem dX11_tray_0 : decode cX11_tray 0 = .ok (.iload_n 1, 1) := by decide +kernel
theorem dX11_tray_1 : decode cX11_tray 1 = .ok (.invokestatic 110, 3) := by decide +kernel
theorem dX11_tray_4 : decode cX11_tray 4 = .ok (.ifCond .eq 22, 3) := by decide +kernel
theorem dX11_tray_7 : decode cX11_tray 7 = .ok (.iload_n 2, 1) := by decide +kernel
theorem dX11_tray_8 : decode cX11_tray 8 = .ok (.ifCond .lt 18, 3) := by decide +kernel
theorem dX11_tray_11 : decode cX11_tray 11 = .ok (.iload_n 2, 1) := by decide +kernel
theorem dX11_tray_12 : decode cX11_tray 12 = .ok (.iconst 3, 1) := by decide +kernel
theorem dX11_tray_13 : decode cX11_tray 13 = .ok (.if_icmp .gt 13, 3) := by decide +kernel
theorem dX11_tray_16 : decode cX11_tray 16 = .ok (.iload_n 3, 1) := by decide +kernel
theorem dX11_tray_17 : decode cX11_tray 17 = .ok (.ifCond .lt 9, 3) := by decide +kernel
theorem dX11_tray_20 : decode cX11_tray 20 = .ok (.iload_n 3, 1) := by decide +kernel
theorem dX11_tray_21 : decode cX11_tray 21 = .ok (.bipush 60, 2) := by decide +kernel
theorem dX11_tray_23 : decode cX11_tray 23 = .ok (.if_icmp .le 9, 3) := by decide +kernel
theorem dX11_tray_26 : decode cX11_tray 26 = .ok (.aload_n 0, 1) := by decide +kernel
theorem dX11_tray_27 : decode cX11_tray 27 = .ok (.iconst 1, 1) := by decide +kernel
theorem dX11_tray_28 : decode cX11_tray 28 = .ok (.invokevirtual 106, 3) := by decide +kernel
theorem dX11_tray_31 : decode cX11_tray 31 = .ok (.ireturn, 1) := by decide +kernel
theorem dX11_tray_32 : decode cX11_tray 32 = .ok (.aload_n 0, 1) := by decide +kernel
theorem dX11_tray_33 : decode cX11_tray 33 = .ok (.getfield 21, 3) := by decide +kernel
theorem dX11_tray_36 : decode cX11_tray 36 = .ok (.iload_n 1, 1) := by decide +kernel
theorem dX11_tray_37 : decode cX11_tray 37 = .ok (.iload_n 2, 1) := by decide +kernel
theorem dX11_tray_38 : decode cX11_tray 38 = .ok (.iastore, 1) := by decide +kernel
theorem dX11_tray_39 : decode cX11_tray 39 = .ok (.aload_n 0, 1) := by decide +kernel
theorem dX11_tray_40 : decode cX11_tray 40 = .ok (.getfield 24, 3) := by decide +kernel
theorem dX11_tray_43 : decode cX11_tray 43 = .ok (.iload_n 1, 1) := by decide +kernel
theorem dX11_tray_44 : decode cX11_tray 44 = .ok (.iload_n 3, 1) := by decide +kernel
theorem dX11_tray_45 : decode cX11_tray 45 = .ok (.iastore, 1) := by decide +kernel
theorem dX11_tray_46 : decode cX11_tray 46 = .ok (.iconst 0, 1) := by decide +kernel
theorem dX11_tray_47 : decode cX11_tray 47 = .ok (.istore 4, 2) := by decide +kernel
theorem dX11_tray_49 : decode cX11_tray 49 = .ok (.iload 4, 2) := by decide +kernel
theorem dX11_tray_51 : decode cX11_tray 51 = .ok (.iload_n 3, 1) := by decide +kernel
theorem dX11_tray_52 : decode cX11_tray 52 = .ok (.if_icmp .ge 22, 3) := by decide +kernel
theorem dX11_tray_55 : decode cX11_tray 55 = .ok (.aload_n 0, 1) := by decide +kernel
theorem dX11_tray_56 : decode cX11_tray 56 = .ok (.getfield 27, 3) := by decide +kernel
theorem dX11_tray_59 : decode cX11_tray 59 = .ok (.bipush 60, 2) := by decide +kernel
theorem dX11_tray_61 : decode cX11_tray 61 = .ok (.iload_n 1, 1) := by decide +kernel
theorem dX11_tray_62 : decode cX11_tray 62 = .ok (.imul, 1) := by decide +kernel
theorem dX11_tray_63 : decode cX11_tray 63 = .ok (.iload 4, 2) := by decide +kernel
theorem dX11_tray_65 : decode cX11_tray 65 = .ok (.iadd, 1) := by decide +kernel
theorem dX11_tray_66 : decode cX11_tray 66 = .ok (.lconst 0, 1) := by decide +kernel
theorem dX11_tray_67 : decode cX11_tray 67 = .ok (.lastore, 1) := by decide +kernel
theorem dX11_tray_68 : decode cX11_tray 68 = .ok (.iinc 4 1, 3) := by decide +kernel
theorem dX11_tray_71 : decode cX11_tray 71 = .ok (.goto (-22), 3) := by decide +kernel
theorem dX11_tray_74 : decode cX11_tray 74 = .ok (.aload_n 0, 1) := by decide +kernel
theorem dX11_tray_75 : decode cX11_tray 75 = .ok (.iconst 0, 1) := by decide +kernel
theorem dX11_tray_76 : decode cX11_tray 76 = .ok (.invokevirtual 106, 3) := by decide +kernel
theorem dX11_tray_79 : decode cX11_tray 79 = .ok (.ireturn, 1) := by decide +kernel
theorem dX11_wrongPlace_0 : decode cX11_wrongPlace 0 = .ok (.iload_n 1, 1) := by decide +kernel
theorem dX11_wrongPlace_1 : decode cX11_wrongPlace 1 = .ok (.invokestatic 110, 3) := by decide +kernel
theorem dX11_wrongPlace_4 : decode cX11_wrongPlace 4 = .ok (.ifCond .ne 7, 3) := by decide +kernel
theorem dX11_wrongPlace_7 : decode cX11_wrongPlace 7 = .ok (.iconst 1, 1) := by decide +kernel
theorem dX11_wrongPlace_8 : decode cX11_wrongPlace 8 = .ok (.goto 36, 3) := by decide +kernel
theorem dX11_wrongPlace_11 : decode cX11_wrongPlace 11 = .ok (.aload_n 0, 1) := by decide +kernel
theorem dX11_wrongPlace_12 : decode cX11_wrongPlace 12 = .ok (.getfield 24, 3) := by decide +kernel
theorem dX11_wrongPlace_15 : decode cX11_wrongPlace 15 = .ok (.iload_n 1, 1) := by decide +kernel
theorem dX11_wrongPlace_16 : decode cX11_wrongPlace 16 = .ok (.iaload, 1) := by decide +kernel
theorem dX11_wrongPlace_17 : decode cX11_wrongPlace 17 = .ok (.iconst (-1), 1) := by decide +kernel
theorem dX11_wrongPlace_18 : decode cX11_wrongPlace 18 = .ok (.if_icmp .ne 7, 3) := by decide +kernel
theorem dX11_wrongPlace_21 : decode cX11_wrongPlace 21 = .ok (.iconst 2, 1) := by decide +kernel
theorem dX11_wrongPlace_22 : decode cX11_wrongPlace 22 = .ok (.goto 22, 3) := by decide +kernel
theorem dX11_wrongPlace_25 : decode cX11_wrongPlace 25 = .ok (.iload_n 2, 1) := by decide +kernel
theorem dX11_wrongPlace_26 : decode cX11_wrongPlace 26 = .ok (.ifCond .lt 13, 3) := by decide +kernel
theorem dX11_wrongPlace_29 : decode cX11_wrongPlace 29 = .ok (.iload_n 2, 1) := by decide +kernel
theorem dX11_wrongPlace_30 : decode cX11_wrongPlace 30 = .ok (.aload_n 0, 1) := by decide +kernel
theorem dX11_wrongPlace_31 : decode cX11_wrongPlace 31 = .ok (.getfield 24, 3) := by decide +kernel
theorem dX11_wrongPlace_34 : decode cX11_wrongPlace 34 = .ok (.iload_n 1, 1) := by decide +kernel
theorem dX11_wrongPlace_35 : decode cX11_wrongPlace 35 = .ok (.iaload, 1) := by decide +kernel
theorem dX11_wrongPlace_36 : decode cX11_wrongPlace 36 = .ok (.if_icmp .lt 7, 3) := by decide +kernel
theorem dX11_wrongPlace_39 : decode cX11_wrongPlace 39 = .ok (.iconst 3, 1) := by decide +kernel
theorem dX11_wrongPlace_40 : decode cX11_wrongPlace 40 = .ok (.goto 4, 3) := by decide +kernel
theorem dX11_wrongPlace_43 : decode cX11_wrongPlace 43 = .ok (.iconst 0, 1) := by decide +kernel
theorem dX11_wrongPlace_44 : decode cX11_wrongPlace 44 = .ok (.ireturn, 1) := by decide +kernel
theorem dX11_write_0 : decode cX11_write 0 = .ok (.aload_n 0, 1) := by decide +kernel
theorem dX11_write_1 : decode cX11_write 1 = .ok (.iload_n 1, 1) := by decide +kernel
theorem dX11_write_2 : decode cX11_write 2 = .ok (.iload_n 2, 1) := by decide +kernel
theorem dX11_write_3 : decode cX11_write 3 = .ok (.invokevirtual 113, 3) := by decide +kernel
theorem dX11_write_6 : decode cX11_write 6 = .ok (.istore 5, 2) := by decide +kernel
theorem dX11_write_8 : decode cX11_write 8 = .ok (.iload 5, 2) := by decide +kernel
theorem dX11_write_10 : decode cX11_write 10 = .ok (.ifCond .ne 24, 3) := by decide +kernel
theorem dX11_write_13 : decode cX11_write 13 = .ok (.aload_n 0, 1) := by decide +kernel
theorem dX11_write_14 : decode cX11_write 14 = .ok (.getfield 27, 3) := by decide +kernel
theorem dX11_write_17 : decode cX11_write 17 = .ok (.bipush 60, 2) := by decide +kernel
theorem dX11_write_19 : decode cX11_write 19 = .ok (.iload_n 1, 1) := by decide +kernel
theorem dX11_write_20 : decode cX11_write 20 = .ok (.imul, 1) := by decide +kernel
theorem dX11_write_21 : decode cX11_write 21 = .ok (.iload_n 2, 1) := by decide +kernel
theorem dX11_write_22 : decode cX11_write 22 = .ok (.iadd, 1) := by decide +kernel
theorem dX11_write_23 : decode cX11_write 23 = .ok (.lload_n 3, 1) := by decide +kernel
theorem dX11_write_24 : decode cX11_write 24 = .ok (.aload_n 0, 1) := by decide +kernel
theorem dX11_write_25 : decode cX11_write 25 = .ok (.getfield 21, 3) := by decide +kernel
theorem dX11_write_28 : decode cX11_write 28 = .ok (.iload_n 1, 1) := by decide +kernel
theorem dX11_write_29 : decode cX11_write 29 = .ok (.iaload, 1) := by decide +kernel
theorem dX11_write_30 : decode cX11_write 30 = .ok (.invokestatic 117, 3) := by decide +kernel
theorem dX11_write_33 : decode cX11_write 33 = .ok (.lastore, 1) := by decide +kernel
theorem dX11_write_34 : decode cX11_write 34 = .ok (.aload_n 0, 1) := by decide +kernel
theorem dX11_write_35 : decode cX11_write 35 = .ok (.iload 5, 2) := by decide +kernel
theorem dX11_write_37 : decode cX11_write 37 = .ok (.invokevirtual 106, 3) := by decide +kernel
theorem dX11_write_40 : decode cX11_write 40 = .ok (.ireturn, 1) := by decide +kernel
theorem dX11_read_0 : decode cX11_read 0 = .ok (.aload_n 0, 1) := by decide +kernel
theorem dX11_read_1 : decode cX11_read 1 = .ok (.aload_n 0, 1) := by decide +kernel
theorem dX11_read_2 : decode cX11_read 2 = .ok (.iload_n 1, 1) := by decide +kernel
theorem dX11_read_3 : decode cX11_read 3 = .ok (.iload_n 2, 1) := by decide +kernel
theorem dX11_read_4 : decode cX11_read 4 = .ok (.invokevirtual 113, 3) := by decide +kernel
theorem dX11_read_7 : decode cX11_read 7 = .ok (.putfield 93, 3) := by decide +kernel
theorem dX11_read_10 : decode cX11_read 10 = .ok (.aload_n 0, 1) := by decide +kernel
theorem dX11_read_11 : decode cX11_read 11 = .ok (.getfield 93, 3) := by decide +kernel
theorem dX11_read_14 : decode cX11_read 14 = .ok (.ifCond .le 9, 3) := by decide +kernel
theorem dX11_read_17 : decode cX11_read 17 = .ok (.ldc2_w 121, 3) := by decide +kernel
theorem dX11_read_20 : decode cX11_read 20 = .ok (.goto 14, 3) := by decide +kernel
theorem dX11_read_23 : decode cX11_read 23 = .ok (.aload_n 0, 1) := by decide +kernel
theorem dX11_read_24 : decode cX11_read 24 = .ok (.getfield 27, 3) := by decide +kernel
theorem dX11_read_27 : decode cX11_read 27 = .ok (.bipush 60, 2) := by decide +kernel
theorem dX11_read_29 : decode cX11_read 29 = .ok (.iload_n 1, 1) := by decide +kernel
theorem dX11_read_30 : decode cX11_read 30 = .ok (.imul, 1) := by decide +kernel
theorem dX11_read_31 : decode cX11_read 31 = .ok (.iload_n 2, 1) := by decide +kernel
theorem dX11_read_32 : decode cX11_read 32 = .ok (.iadd, 1) := by decide +kernel
theorem dX11_read_33 : decode cX11_read 33 = .ok (.laload, 1) := by decide +kernel
theorem dX11_read_34 : decode cX11_read 34 = .ok (.lreturn, 1) := by decide +kernel
theorem dX11_pour_0 : decode cX11_pour 0 = .ok (.iload_n 1, 1) := by decide +kernel
theorem dX11_pour_1 : decode cX11_pour 1 = .ok (.invokestatic 110, 3) := by decide +kernel
theorem dX11_pour_4 : decode cX11_pour 4 = .ok (.ifCond .eq 24, 3) := by decide +kernel
theorem dX11_pour_7 : decode cX11_pour 7 = .ok (.iload_n 3, 1) := by decide +kernel
theorem dX11_pour_8 : decode cX11_pour 8 = .ok (.invokestatic 110, 3) := by decide +kernel
theorem dX11_pour_11 : decode cX11_pour 11 = .ok (.ifCond .eq 17, 3) := by decide +kernel
theorem dX11_pour_14 : decode cX11_pour 14 = .ok (.iload_n 2, 1) := by decide +kernel
theorem dX11_pour_15 : decode cX11_pour 15 = .ok (.ifCond .lt 13, 3) := by decide +kernel
theorem dX11_pour_18 : decode cX11_pour 18 = .ok (.iload 4, 2) := by decide +kernel
theorem dX11_pour_20 : decode cX11_pour 20 = .ok (.ifCond .lt 8, 3) := by decide +kernel
theorem dX11_pour_23 : decode cX11_pour 23 = .ok (.iload 5, 2) := by decide +kernel
theorem dX11_pour_25 : decode cX11_pour 25 = .ok (.ifCond .ge 9, 3) := by decide +kernel
theorem dX11_pour_28 : decode cX11_pour 28 = .ok (.aload_n 0, 1) := by decide +kernel
theorem dX11_pour_29 : decode cX11_pour 29 = .ok (.iconst 1, 1) := by decide +kernel
theorem dX11_pour_30 : decode cX11_pour 30 = .ok (.invokevirtual 106, 3) := by decide +kernel
theorem dX11_pour_33 : decode cX11_pour 33 = .ok (.ireturn, 1) := by decide +kernel
theorem dX11_pour_34 : decode cX11_pour 34 = .ok (.aload_n 0, 1) := by decide +kernel
theorem dX11_pour_35 : decode cX11_pour 35 = .ok (.getfield 24, 3) := by decide +kernel
theorem dX11_pour_38 : decode cX11_pour 38 = .ok (.iload_n 1, 1) := by decide +kernel
theorem dX11_pour_39 : decode cX11_pour 39 = .ok (.iaload, 1) := by decide +kernel
theorem dX11_pour_40 : decode cX11_pour 40 = .ok (.iconst (-1), 1) := by decide +kernel
theorem dX11_pour_41 : decode cX11_pour 41 = .ok (.if_icmp .eq 13, 3) := by decide +kernel
theorem dX11_pour_44 : decode cX11_pour 44 = .ok (.aload_n 0, 1) := by decide +kernel
theorem dX11_pour_45 : decode cX11_pour 45 = .ok (.getfield 24, 3) := by decide +kernel
theorem dX11_pour_48 : decode cX11_pour 48 = .ok (.iload_n 3, 1) := by decide +kernel
theorem dX11_pour_49 : decode cX11_pour 49 = .ok (.iaload, 1) := by decide +kernel
theorem dX11_pour_50 : decode cX11_pour 50 = .ok (.iconst (-1), 1) := by decide +kernel
theorem dX11_pour_51 : decode cX11_pour 51 = .ok (.if_icmp .ne 9, 3) := by decide +kernel
theorem dX11_pour_54 : decode cX11_pour 54 = .ok (.aload_n 0, 1) := by decide +kernel
theorem dX11_pour_55 : decode cX11_pour 55 = .ok (.iconst 2, 1) := by decide +kernel
theorem dX11_pour_56 : decode cX11_pour 56 = .ok (.invokevirtual 106, 3) := by decide +kernel
theorem dX11_pour_59 : decode cX11_pour 59 = .ok (.ireturn, 1) := by decide +kernel
theorem dX11_pour_60 : decode cX11_pour 60 = .ok (.aload_n 0, 1) := by decide +kernel
theorem dX11_pour_61 : decode cX11_pour 61 = .ok (.getfield 21, 3) := by decide +kernel
theorem dX11_pour_64 : decode cX11_pour 64 = .ok (.iload_n 1, 1) := by decide +kernel
theorem dX11_pour_65 : decode cX11_pour 65 = .ok (.iaload, 1) := by decide +kernel
theorem dX11_pour_66 : decode cX11_pour 66 = .ok (.aload_n 0, 1) := by decide +kernel
theorem dX11_pour_67 : decode cX11_pour 67 = .ok (.getfield 21, 3) := by decide +kernel
theorem dX11_pour_70 : decode cX11_pour 70 = .ok (.iload_n 3, 1) := by decide +kernel
theorem dX11_pour_71 : decode cX11_pour 71 = .ok (.iaload, 1) := by decide +kernel
theorem dX11_pour_72 : decode cX11_pour 72 = .ok (.if_icmp .eq 10, 3) := by decide +kernel
theorem dX11_pour_75 : decode cX11_pour 75 = .ok (.aload_n 0, 1) := by decide +kernel
theorem dX11_pour_76 : decode cX11_pour 76 = .ok (.bipush 8, 2) := by decide +kernel
theorem dX11_pour_78 : decode cX11_pour 78 = .ok (.invokevirtual 106, 3) := by decide +kernel
theorem dX11_pour_81 : decode cX11_pour 81 = .ok (.ireturn, 1) := by decide +kernel
theorem dX11_pour_82 : decode cX11_pour 82 = .ok (.iload 5, 2) := by decide +kernel
theorem dX11_pour_84 : decode cX11_pour 84 = .ok (.aload_n 0, 1) := by decide +kernel
theorem dX11_pour_85 : decode cX11_pour 85 = .ok (.getfield 24, 3) := by decide +kernel
theorem dX11_pour_88 : decode cX11_pour 88 = .ok (.iload_n 1, 1) := by decide +kernel
theorem dX11_pour_89 : decode cX11_pour 89 = .ok (.iaload, 1) := by decide +kernel
theorem dX11_pour_90 : decode cX11_pour 90 = .ok (.iload_n 2, 1) := by decide +kernel
theorem dX11_pour_91 : decode cX11_pour 91 = .ok (.isub, 1) := by decide +kernel
theorem dX11_pour_92 : decode cX11_pour 92 = .ok (.if_icmp .gt 17, 3) := by decide +kernel
theorem dX11_pour_95 : decode cX11_pour 95 = .ok (.iload 5, 2) := by decide +kernel
theorem dX11_pour_97 : decode cX11_pour 97 = .ok (.aload_n 0, 1) := by decide +kernel
theorem dX11_pour_98 : decode cX11_pour 98 = .ok (.getfield 24, 3) := by decide +kernel
theorem dX11_pour_101 : decode cX11_pour 101 = .ok (.iload_n 3, 1) := by decide +kernel
theorem dX11_pour_102 : decode cX11_pour 102 = .ok (.iaload, 1) := by decide +kernel
theorem dX11_pour_103 : decode cX11_pour 103 = .ok (.iload 4, 2) := by decide +kernel
theorem dX11_pour_105 : decode cX11_pour 105 = .ok (.isub, 1) := by decide +kernel
theorem dX11_pour_106 : decode cX11_pour 106 = .ok (.if_icmp .le 9, 3) := by decide +kernel
theorem dX11_pour_109 : decode cX11_pour 109 = .ok (.aload_n 0, 1) := by decide +kernel
theorem dX11_pour_110 : decode cX11_pour 110 = .ok (.iconst 3, 1) := by decide +kernel
theorem dX11_pour_111 : decode cX11_pour 111 = .ok (.invokevirtual 106, 3) := by decide +kernel
theorem dX11_pour_114 : decode cX11_pour 114 = .ok (.ireturn, 1) := by decide +kernel
theorem dX11_pour_115 : decode cX11_pour 115 = .ok (.iconst 0, 1) := by decide +kernel
theorem dX11_pour_116 : decode cX11_pour 116 = .ok (.istore 6, 2) := by decide +kernel
theorem dX11_pour_118 : decode cX11_pour 118 = .ok (.iload 6, 2) := by decide +kernel
theorem dX11_pour_120 : decode cX11_pour 120 = .ok (.iload 5, 2) := by decide +kernel
theorem dX11_pour_122 : decode cX11_pour 122 = .ok (.if_icmp .ge 58, 3) := by decide +kernel
theorem dX11_pour_125 : decode cX11_pour 125 = .ok (.iload_n 2, 1) := by decide +kernel
theorem dX11_pour_126 : decode cX11_pour 126 = .ok (.iload 4, 2) := by decide +kernel
theorem dX11_pour_128 : decode cX11_pour 128 = .ok (.if_icmp .ge 13, 3) := by decide +kernel
theorem dX11_pour_131 : decode cX11_pour 131 = .ok (.iload 5, 2) := by decide +kernel
theorem dX11_pour_133 : decode cX11_pour 133 = .ok (.iconst 1, 1) := by decide +kernel
theorem dX11_pour_134 : decode cX11_pour 134 = .ok (.isub, 1) := by decide +kernel
theorem dX11_pour_135 : decode cX11_pour 135 = .ok (.iload 6, 2) := by decide +kernel
theorem dX11_pour_137 : decode cX11_pour 137 = .ok (.isub, 1) := by decide +kernel
theorem dX11_pour_138 : decode cX11_pour 138 = .ok (.goto 5, 3) := by decide +kernel
theorem dX11_pour_141 : decode cX11_pour 141 = .ok (.iload 6, 2) := by decide +kernel
theorem dX11_pour_143 : decode cX11_pour 143 = .ok (.istore 7, 2) := by decide +kernel
theorem dX11_pour_145 : decode cX11_pour 145 = .ok (.aload_n 0, 1) := by decide +kernel
theorem dX11_pour_146 : decode cX11_pour 146 = .ok (.getfield 27, 3) := by decide +kernel
theorem dX11_pour_149 : decode cX11_pour 149 = .ok (.bipush 60, 2) := by decide +kernel
theorem dX11_pour_151 : decode cX11_pour 151 = .ok (.iload_n 3, 1) := by decide +kernel
theorem dX11_pour_152 : decode cX11_pour 152 = .ok (.imul, 1) := by decide +kernel
theorem dX11_pour_153 : decode cX11_pour 153 = .ok (.iload 4, 2) := by decide +kernel
theorem dX11_pour_155 : decode cX11_pour 155 = .ok (.iadd, 1) := by decide +kernel
theorem dX11_pour_156 : decode cX11_pour 156 = .ok (.iload 7, 2) := by decide +kernel
theorem dX11_pour_158 : decode cX11_pour 158 = .ok (.iadd, 1) := by decide +kernel
theorem dX11_pour_159 : decode cX11_pour 159 = .ok (.aload_n 0, 1) := by decide +kernel
theorem dX11_pour_160 : decode cX11_pour 160 = .ok (.getfield 27, 3) := by decide +kernel
theorem dX11_pour_163 : decode cX11_pour 163 = .ok (.bipush 60, 2) := by decide +kernel
theorem dX11_pour_165 : decode cX11_pour 165 = .ok (.iload_n 1, 1) := by decide +kernel
theorem dX11_pour_166 : decode cX11_pour 166 = .ok (.imul, 1) := by decide +kernel
theorem dX11_pour_167 : decode cX11_pour 167 = .ok (.iload_n 2, 1) := by decide +kernel
theorem dX11_pour_168 : decode cX11_pour 168 = .ok (.iadd, 1) := by decide +kernel
theorem dX11_pour_169 : decode cX11_pour 169 = .ok (.iload 7, 2) := by decide +kernel
theorem dX11_pour_171 : decode cX11_pour 171 = .ok (.iadd, 1) := by decide +kernel
theorem dX11_pour_172 : decode cX11_pour 172 = .ok (.laload, 1) := by decide +kernel
theorem dX11_pour_173 : decode cX11_pour 173 = .ok (.lastore, 1) := by decide +kernel
theorem dX11_pour_174 : decode cX11_pour 174 = .ok (.iinc 6 1, 3) := by decide +kernel
theorem dX11_pour_177 : decode cX11_pour 177 = .ok (.goto (-59), 3) := by decide +kernel
theorem dX11_pour_180 : decode cX11_pour 180 = .ok (.aload_n 0, 1) := by decide +kernel
theorem dX11_pour_181 : decode cX11_pour 181 = .ok (.iconst 0, 1) := by decide +kernel
theorem dX11_pour_182 : decode cX11_pour 182 = .ok (.invokevirtual 106, 3) := by decide +kernel
theorem dX11_pour_185 : decode cX11_pour 185 = .ok (.ireturn, 1) := by decide +kernel
theorem dX11_isFrom_0 : decode cX11_isFrom 0 = .ok (.lload_n 0, 1) := by decide +kernel
theorem dX11_isFrom_1 : decode cX11_isFrom 1 = .ok (.lload_n 2, 1) := by decide +kernel
theorem dX11_isFrom_2 : decode cX11_isFrom 2 = .ok (.lcmp, 1) := by decide +kernel
theorem dX11_isFrom_3 : decode cX11_isFrom 3 = .ok (.ifCond .lt 14, 3) := by decide +kernel
theorem dX11_isFrom_6 : decode cX11_isFrom 6 = .ok (.lload_n 0, 1) := by decide +kernel
theorem dX11_isFrom_7 : decode cX11_isFrom 7 = .ok (.lload 4, 2) := by decide +kernel
theorem dX11_isFrom_9 : decode cX11_isFrom 9 = .ok (.lcmp, 1) := by decide +kernel
theorem dX11_isFrom_10 : decode cX11_isFrom 10 = .ok (.ifCond .gt 7, 3) := by decide +kernel
theorem dX11_isFrom_13 : decode cX11_isFrom 13 = .ok (.iconst 1, 1) := by decide +kernel
theorem dX11_isFrom_14 : decode cX11_isFrom 14 = .ok (.goto 4, 3) := by decide +kernel
theorem dX11_isFrom_17 : decode cX11_isFrom 17 = .ok (.iconst 0, 1) := by decide +kernel
theorem dX11_isFrom_18 : decode cX11_isFrom 18 = .ok (.ireturn, 1) := by decide +kernel
theorem dX11_feed_0 : decode cX11_feed 0 = .ok (.aload_n 0, 1) := by decide +kernel
theorem dX11_feed_1 : decode cX11_feed 1 = .ok (.getfield 123, 3) := by decide +kernel
theorem dX11_feed_4 : decode cX11_feed 4 = .ok (.bipush 20, 2) := by decide +kernel
theorem dX11_feed_6 : decode cX11_feed 6 = .ok (.iadd, 1) := by decide +kernel
theorem dX11_feed_7 : decode cX11_feed 7 = .ok (.sipush 900, 3) := by decide +kernel
theorem dX11_feed_10 : decode cX11_feed 10 = .ok (.if_icmp .le 5, 3) := by decide +kernel
theorem dX11_feed_13 : decode cX11_feed 13 = .ok (.iconst (-1), 1) := by decide +kernel
theorem dX11_feed_14 : decode cX11_feed 14 = .ok (.ireturn, 1) := by decide +kernel
theorem dX11_feed_15 : decode cX11_feed 15 = .ok (.aload_n 0, 1) := by decide +kernel
theorem dX11_feed_16 : decode cX11_feed 16 = .ok (.iload_n 1, 1) := by decide +kernel
theorem dX11_feed_17 : decode cX11_feed 17 = .ok (.invokevirtual 126, 3) := by decide +kernel
theorem dX11_feed_20 : decode cX11_feed 20 = .ok (.aload_n 0, 1) := by decide +kernel
theorem dX11_feed_21 : decode cX11_feed 21 = .ok (.iload_n 2, 1) := by decide +kernel
theorem dX11_feed_22 : decode cX11_feed 22 = .ok (.invokevirtual 126, 3) := by decide +kernel
theorem dX11_feed_25 : decode cX11_feed 25 = .ok (.aload_n 0, 1) := by decide +kernel
theorem dX11_feed_26 : decode cX11_feed 26 = .ok (.iload_n 3, 1) := by decide +kernel
theorem dX11_feed_27 : decode cX11_feed 27 = .ok (.invokevirtual 126, 3) := by decide +kernel
theorem dX11_feed_30 : decode cX11_feed 30 = .ok (.aload_n 0, 1) := by decide +kernel
theorem dX11_feed_31 : decode cX11_feed 31 = .ok (.iload 4, 2) := by decide +kernel
theorem dX11_feed_33 : decode cX11_feed 33 = .ok (.invokevirtual 126, 3) := by decide +kernel
theorem dX11_feed_36 : decode cX11_feed 36 = .ok (.aload_n 0, 1) := by decide +kernel
theorem dX11_feed_37 : decode cX11_feed 37 = .ok (.iload 5, 2) := by decide +kernel
theorem dX11_feed_39 : decode cX11_feed 39 = .ok (.invokevirtual 126, 3) := by decide +kernel
theorem dX11_feed_42 : decode cX11_feed 42 = .ok (.aload_n 0, 1) := by decide +kernel
theorem dX11_feed_43 : decode cX11_feed 43 = .ok (.getfield 123, 3) := by decide +kernel
theorem dX11_feed_46 : decode cX11_feed 46 = .ok (.ireturn, 1) := by decide +kernel
theorem dX11_four_0 : decode cX11_four 0 = .ok (.bipush 24, 2) := by decide +kernel
theorem dX11_four_2 : decode cX11_four 2 = .ok (.istore_n 2, 1) := by decide +kernel
theorem dX11_four_3 : decode cX11_four 3 = .ok (.iload_n 2, 1) := by decide +kernel
theorem dX11_four_4 : decode cX11_four 4 = .ok (.ifCond .lt 32, 3) := by decide +kernel
theorem dX11_four_7 : decode cX11_four 7 = .ok (.aload_n 0, 1) := by decide +kernel
theorem dX11_four_8 : decode cX11_four 8 = .ok (.getfield 30, 3) := by decide +kernel
theorem dX11_four_11 : decode cX11_four 11 = .ok (.aload_n 0, 1) := by decide +kernel
theorem dX11_four_12 : decode cX11_four 12 = .ok (.getfield 123, 3) := by decide +kernel
theorem dX11_four_15 : decode cX11_four 15 = .ok (.iload_n 1, 1) := by decide +kernel
theorem dX11_four_16 : decode cX11_four 16 = .ok (.iload_n 2, 1) := by decide +kernel
theorem dX11_four_17 : decode cX11_four 17 = .ok (.ishr, 1) := by decide +kernel
theorem dX11_four_18 : decode cX11_four 18 = .ok (.i2b, 1) := by decide +kernel
theorem dX11_four_19 : decode cX11_four 19 = .ok (.bastore, 1) := by decide +kernel
theorem dX11_four_20 : decode cX11_four 20 = .ok (.aload_n 0, 1) := by decide +kernel
theorem dX11_four_21 : decode cX11_four 21 = .ok (.dup, 1) := by decide +kernel
theorem dX11_four_22 : decode cX11_four 22 = .ok (.getfield 123, 3) := by decide +kernel
theorem dX11_four_25 : decode cX11_four 25 = .ok (.iconst 1, 1) := by decide +kernel
theorem dX11_four_26 : decode cX11_four 26 = .ok (.iadd, 1) := by decide +kernel
theorem dX11_four_27 : decode cX11_four 27 = .ok (.putfield 123, 3) := by decide +kernel
theorem dX11_four_30 : decode cX11_four 30 = .ok (.iinc 2 (-8), 3) := by decide +kernel
theorem dX11_four_33 : decode cX11_four 33 = .ok (.goto (-30), 3) := by decide +kernel
theorem dX11_four_36 : decode cX11_four 36 = .ok (.return_, 1) := by decide +kernel
theorem dX11_byteAt_0 : decode cX11_byteAt 0 = .ok (.iload_n 1, 1) := by decide +kernel
theorem dX11_byteAt_1 : decode cX11_byteAt 1 = .ok (.aload_n 0, 1) := by decide +kernel
theorem dX11_byteAt_2 : decode cX11_byteAt 2 = .ok (.getfield 129, 3) := by decide +kernel
theorem dX11_byteAt_5 : decode cX11_byteAt 5 = .ok (.if_icmp .ge 16, 3) := by decide +kernel
theorem dX11_byteAt_8 : decode cX11_byteAt 8 = .ok (.aload_n 0, 1) := by decide +kernel
theorem dX11_byteAt_9 : decode cX11_byteAt 9 = .ok (.getfield 34, 3) := by decide +kernel
theorem dX11_byteAt_12 : decode cX11_byteAt 12 = .ok (.iload_n 1, 1) := by decide +kernel
theorem dX11_byteAt_13 : decode cX11_byteAt 13 = .ok (.baload, 1) := by decide +kernel
theorem dX11_byteAt_14 : decode cX11_byteAt 14 = .ok (.sipush 255, 3) := by decide +kernel
theorem dX11_byteAt_17 : decode cX11_byteAt 17 = .ok (.iand, 1) := by decide +kernel
theorem dX11_byteAt_18 : decode cX11_byteAt 18 = .ok (.goto 4, 3) := by decide +kernel
theorem dX11_byteAt_21 : decode cX11_byteAt 21 = .ok (.iconst (-1), 1) := by decide +kernel
theorem dX11_byteAt_22 : decode cX11_byteAt 22 = .ok (.ireturn, 1) := by decide +kernel
theorem dX11_isSmall_0 : decode cX11_isSmall 0 = .ok (.iload_n 0, 1) := by decide +kernel
theorem dX11_isSmall_1 : decode cX11_isSmall 1 = .ok (.bipush 97, 2) := by decide +kernel
theorem dX11_isSmall_3 : decode cX11_isSmall 3 = .ok (.if_icmp .lt 13, 3) := by decide +kernel
theorem dX11_isSmall_6 : decode cX11_isSmall 6 = .ok (.iload_n 0, 1) := by decide +kernel
theorem dX11_isSmall_7 : decode cX11_isSmall 7 = .ok (.bipush 122, 2) := by decide +kernel
theorem dX11_isSmall_9 : decode cX11_isSmall 9 = .ok (.if_icmp .gt 7, 3) := by decide +kernel
theorem dX11_isSmall_12 : decode cX11_isSmall 12 = .ok (.iconst 1, 1) := by decide +kernel
theorem dX11_isSmall_13 : decode cX11_isSmall 13 = .ok (.goto 4, 3) := by decide +kernel
theorem dX11_isSmall_16 : decode cX11_isSmall 16 = .ok (.iconst 0, 1) := by decide +kernel
theorem dX11_isSmall_17 : decode cX11_isSmall 17 = .ok (.ireturn, 1) := by decide +kernel
theorem dX11_isDigit_0 : decode cX11_isDigit 0 = .ok (.iload_n 0, 1) := by decide +kernel
theorem dX11_isDigit_1 : decode cX11_isDigit 1 = .ok (.bipush 48, 2) := by decide +kernel
theorem dX11_isDigit_3 : decode cX11_isDigit 3 = .ok (.if_icmp .lt 13, 3) := by decide +kernel
theorem dX11_isDigit_6 : decode cX11_isDigit 6 = .ok (.iload_n 0, 1) := by decide +kernel
theorem dX11_isDigit_7 : decode cX11_isDigit 7 = .ok (.bipush 57, 2) := by decide +kernel
theorem dX11_isDigit_9 : decode cX11_isDigit 9 = .ok (.if_icmp .gt 7, 3) := by decide +kernel
theorem dX11_isDigit_12 : decode cX11_isDigit 12 = .ok (.iconst 1, 1) := by decide +kernel
theorem dX11_isDigit_13 : decode cX11_isDigit 13 = .ok (.goto 4, 3) := by decide +kernel
theorem dX11_isDigit_16 : decode cX11_isDigit 16 = .ok (.iconst 0, 1) := by decide +kernel
theorem dX11_isDigit_17 : decode cX11_isDigit 17 = .ok (.ireturn, 1) := by decide +kernel
theorem dX11_ahead_0 : decode cX11_ahead 0 = .ok (.aload_n 0, 1) := by decide +kernel
theorem dX11_ahead_1 : decode cX11_ahead 1 = .ok (.aload_n 0, 1) := by decide +kernel
theorem dX11_ahead_2 : decode cX11_ahead 2 = .ok (.getfield 132, 3) := by decide +kernel
theorem dX11_ahead_5 : decode cX11_ahead 5 = .ok (.invokevirtual 135, 3) := by decide +kernel
theorem dX11_ahead_8 : decode cX11_ahead 8 = .ok (.bipush 32, 2) := by decide +kernel
theorem dX11_ahead_10 : decode cX11_ahead 10 = .ok (.if_icmp .eq 16, 3) := by decide +kernel
theorem dX11_ahead_13 : decode cX11_ahead 13 = .ok (.aload_n 0, 1) := by decide +kernel
theorem dX11_ahead_14 : decode cX11_ahead 14 = .ok (.aload_n 0, 1) := by decide +kernel
theorem dX11_ahead_15 : decode cX11_ahead 15 = .ok (.getfield 132, 3) := by decide +kernel
theorem dX11_ahead_18 : decode cX11_ahead 18 = .ok (.invokevirtual 135, 3) := by decide +kernel
theorem dX11_ahead_21 : decode cX11_ahead 21 = .ok (.bipush 10, 2) := by decide +kernel
theorem dX11_ahead_23 : decode cX11_ahead 23 = .ok (.if_icmp .ne 16, 3) := by decide +kernel
theorem dX11_ahead_26 : decode cX11_ahead 26 = .ok (.aload_n 0, 1) := by decide +kernel
theorem dX11_ahead_27 : decode cX11_ahead 27 = .ok (.dup, 1) := by decide +kernel
theorem dX11_ahead_28 : decode cX11_ahead 28 = .ok (.getfield 132, 3) := by decide +kernel
theorem dX11_ahead_31 : decode cX11_ahead 31 = .ok (.iconst 1, 1) := by decide +kernel
theorem dX11_ahead_32 : decode cX11_ahead 32 = .ok (.iadd, 1) := by decide +kernel
theorem dX11_ahead_33 : decode cX11_ahead 33 = .ok (.putfield 132, 3) := by decide +kernel
theorem dX11_ahead_36 : decode cX11_ahead 36 = .ok (.goto (-36), 3) := by decide +kernel
theorem dX11_ahead_39 : decode cX11_ahead 39 = .ok (.aload_n 0, 1) := by decide +kernel
theorem dX11_ahead_40 : decode cX11_ahead 40 = .ok (.aload_n 0, 1) := by decide +kernel
theorem dX11_ahead_41 : decode cX11_ahead 41 = .ok (.getfield 132, 3) := by decide +kernel
theorem dX11_ahead_44 : decode cX11_ahead 44 = .ok (.putfield 138, 3) := by decide +kernel
theorem dX11_ahead_47 : decode cX11_ahead 47 = .ok (.aload_n 0, 1) := by decide +kernel
theorem dX11_ahead_48 : decode cX11_ahead 48 = .ok (.aload_n 0, 1) := by decide +kernel
theorem dX11_ahead_49 : decode cX11_ahead 49 = .ok (.getfield 132, 3) := by decide +kernel
theorem dX11_ahead_52 : decode cX11_ahead 52 = .ok (.invokevirtual 135, 3) := by decide +kernel
theorem dX11_ahead_55 : decode cX11_ahead 55 = .ok (.istore_n 1, 1) := by decide +kernel
theorem dX11_ahead_56 : decode cX11_ahead 56 = .ok (.aload_n 0, 1) := by decide +kernel
theorem dX11_ahead_57 : decode cX11_ahead 57 = .ok (.iload_n 1, 1) := by decide +kernel
theorem dX11_ahead_58 : decode cX11_ahead 58 = .ok (.putfield 141, 3) := by decide +kernel
theorem dX11_ahead_61 : decode cX11_ahead 61 = .ok (.iload_n 1, 1) := by decide +kernel
theorem dX11_ahead_62 : decode cX11_ahead 62 = .ok (.iconst (-1), 1) := by decide +kernel
theorem dX11_ahead_63 : decode cX11_ahead 63 = .ok (.if_icmp .ne 11, 3) := by decide +kernel
theorem dX11_ahead_66 : decode cX11_ahead 66 = .ok (.aload_n 0, 1) := by decide +kernel
theorem dX11_ahead_67 : decode cX11_ahead 67 = .ok (.iconst 0, 1) := by decide +kernel
theorem dX11_ahead_68 : decode cX11_ahead 68 = .ok (.putfield 144, 3) := by decide +kernel
theorem dX11_ahead_71 : decode cX11_ahead 71 = .ok (.goto 180, 3) := by decide +kernel
theorem dX11_ahead_74 : decode cX11_ahead 74 = .ok (.iload_n 1, 1) := by decide +kernel
theorem dX11_ahead_75 : decode cX11_ahead 75 = .ok (.invokestatic 147, 3) := by decide +kernel
theorem dX11_ahead_78 : decode cX11_ahead 78 = .ok (.ifCond .eq 38, 3) := by decide +kernel
theorem dX11_ahead_81 : decode cX11_ahead 81 = .ok (.aload_n 0, 1) := by decide +kernel
theorem dX11_ahead_82 : decode cX11_ahead 82 = .ok (.aload_n 0, 1) := by decide +kernel
theorem dX11_ahead_83 : decode cX11_ahead 83 = .ok (.getfield 132, 3) := by decide +kernel
theorem dX11_ahead_86 : decode cX11_ahead 86 = .ok (.invokevirtual 135, 3) := by decide +kernel
theorem dX11_ahead_89 : decode cX11_ahead 89 = .ok (.invokestatic 147, 3) := by decide +kernel
theorem dX11_ahead_92 : decode cX11_ahead 92 = .ok (.ifCond .eq 16, 3) := by decide +kernel
theorem dX11_ahead_95 : decode cX11_ahead 95 = .ok (.aload_n 0, 1) := by decide +kernel
theorem dX11_ahead_96 : decode cX11_ahead 96 = .ok (.dup, 1) := by decide +kernel
theorem dX11_ahead_97 : decode cX11_ahead 97 = .ok (.getfield 132, 3) := by decide +kernel
theorem dX11_ahead_100 : decode cX11_ahead 100 = .ok (.iconst 1, 1) := by decide +kernel
theorem dX11_ahead_101 : decode cX11_ahead 101 = .ok (.iadd, 1) := by decide +kernel
theorem dX11_ahead_102 : decode cX11_ahead 102 = .ok (.putfield 132, 3) := by decide +kernel
theorem dX11_ahead_105 : decode cX11_ahead 105 = .ok (.goto (-24), 3) := by decide +kernel
theorem dX11_ahead_108 : decode cX11_ahead 108 = .ok (.aload_n 0, 1) := by decide +kernel
theorem dX11_ahead_109 : decode cX11_ahead 109 = .ok (.iconst 2, 1) := by decide +kernel
theorem dX11_ahead_110 : decode cX11_ahead 110 = .ok (.putfield 144, 3) := by decide +kernel
theorem dX11_ahead_113 : decode cX11_ahead 113 = .ok (.goto 138, 3) := by decide +kernel
theorem dX11_ahead_116 : decode cX11_ahead 116 = .ok (.iload_n 1, 1) := by decide +kernel
theorem dX11_ahead_117 : decode cX11_ahead 117 = .ok (.invokestatic 150, 3) := by decide +kernel
theorem dX11_ahead_120 : decode cX11_ahead 120 = .ok (.ifCond .eq 88, 3) := by decide +kernel
theorem dX11_ahead_123 : decode cX11_ahead 123 = .ok (.aload_n 0, 1) := by decide +kernel
theorem dX11_ahead_124 : decode cX11_ahead 124 = .ok (.iconst 0, 1) := by decide +kernel
theorem dX11_ahead_125 : decode cX11_ahead 125 = .ok (.putfield 141, 3) := by decide +kernel
theorem dX11_ahead_128 : decode cX11_ahead 128 = .ok (.aload_n 0, 1) := by decide +kernel
theorem dX11_ahead_129 : decode cX11_ahead 129 = .ok (.aload_n 0, 1) := by decide +kernel
theorem dX11_ahead_130 : decode cX11_ahead 130 = .ok (.getfield 132, 3) := by decide +kernel
theorem dX11_ahead_133 : decode cX11_ahead 133 = .ok (.invokevirtual 135, 3) := by decide +kernel
theorem dX11_ahead_136 : decode cX11_ahead 136 = .ok (.invokestatic 150, 3) := by decide +kernel
theorem dX11_ahead_139 : decode cX11_ahead 139 = .ok (.ifCond .eq 44, 3) := by decide +kernel
theorem dX11_ahead_142 : decode cX11_ahead 142 = .ok (.aload_n 0, 1) := by decide +kernel
theorem dX11_ahead_143 : decode cX11_ahead 143 = .ok (.ldc 153, 2) := by decide +kernel
theorem dX11_ahead_145 : decode cX11_ahead 145 = .ok (.bipush 10, 2) := by decide +kernel
theorem dX11_ahead_147 : decode cX11_ahead 147 = .ok (.aload_n 0, 1) := by decide +kernel
theorem dX11_ahead_148 : decode cX11_ahead 148 = .ok (.getfield 141, 3) := by decide +kernel
theorem dX11_ahead_151 : decode cX11_ahead 151 = .ok (.imul, 1) := by decide +kernel
theorem dX11_ahead_152 : decode cX11_ahead 152 = .ok (.aload_n 0, 1) := by decide +kernel
theorem dX11_ahead_153 : decode cX11_ahead 153 = .ok (.aload_n 0, 1) := by decide +kernel
theorem dX11_ahead_154 : decode cX11_ahead 154 = .ok (.getfield 132, 3) := by decide +kernel
theorem dX11_ahead_157 : decode cX11_ahead 157 = .ok (.invokevirtual 135, 3) := by decide +kernel
theorem dX11_ahead_160 : decode cX11_ahead 160 = .ok (.iadd, 1) := by decide +kernel
theorem dX11_ahead_161 : decode cX11_ahead 161 = .ok (.bipush 48, 2) := by decide +kernel
theorem dX11_ahead_163 : decode cX11_ahead 163 = .ok (.isub, 1) := by decide +kernel
theorem dX11_ahead_164 : decode cX11_ahead 164 = .ok (.invokestatic 154, 3) := by decide +kernel
theorem dX11_ahead_167 : decode cX11_ahead 167 = .ok (.putfield 141, 3) := by decide +kernel
theorem dX11_ahead_170 : decode cX11_ahead 170 = .ok (.aload_n 0, 1) := by decide +kernel
theorem dX11_ahead_171 : decode cX11_ahead 171 = .ok (.dup, 1) := by decide +kernel
theorem dX11_ahead_172 : decode cX11_ahead 172 = .ok (.getfield 132, 3) := by decide +kernel
theorem dX11_ahead_175 : decode cX11_ahead 175 = .ok (.iconst 1, 1) := by decide +kernel
theorem dX11_ahead_176 : decode cX11_ahead 176 = .ok (.iadd, 1) := by decide +kernel
theorem dX11_ahead_177 : decode cX11_ahead 177 = .ok (.putfield 132, 3) := by decide +kernel
theorem dX11_ahead_180 : decode cX11_ahead 180 = .ok (.goto (-52), 3) := by decide +kernel
theorem dX11_ahead_183 : decode cX11_ahead 183 = .ok (.aload_n 0, 1) := by decide +kernel
theorem dX11_ahead_184 : decode cX11_ahead 184 = .ok (.aload_n 0, 1) := by decide +kernel
theorem dX11_ahead_185 : decode cX11_ahead 185 = .ok (.getfield 132, 3) := by decide +kernel
theorem dX11_ahead_188 : decode cX11_ahead 188 = .ok (.aload_n 0, 1) := by decide +kernel
theorem dX11_ahead_189 : decode cX11_ahead 189 = .ok (.getfield 138, 3) := by decide +kernel
theorem dX11_ahead_192 : decode cX11_ahead 192 = .ok (.isub, 1) := by decide +kernel
theorem dX11_ahead_193 : decode cX11_ahead 193 = .ok (.iconst 4, 1) := by decide +kernel
theorem dX11_ahead_194 : decode cX11_ahead 194 = .ok (.if_icmp .le 7, 3) := by decide +kernel
theorem dX11_ahead_197 : decode cX11_ahead 197 = .ok (.iconst 1, 1) := by decide +kernel
theorem dX11_ahead_198 : decode cX11_ahead 198 = .ok (.goto 4, 3) := by decide +kernel
theorem dX11_ahead_201 : decode cX11_ahead 201 = .ok (.iconst 3, 1) := by decide +kernel
theorem dX11_ahead_202 : decode cX11_ahead 202 = .ok (.putfield 144, 3) := by decide +kernel
theorem dX11_ahead_205 : decode cX11_ahead 205 = .ok (.goto 46, 3) := by decide +kernel
theorem dX11_ahead_208 : decode cX11_ahead 208 = .ok (.aload_n 0, 1) := by decide +kernel
theorem dX11_ahead_209 : decode cX11_ahead 209 = .ok (.dup, 1) := by decide +kernel
theorem dX11_ahead_210 : decode cX11_ahead 210 = .ok (.getfield 132, 3) := by decide +kernel
theorem dX11_ahead_213 : decode cX11_ahead 213 = .ok (.iconst 1, 1) := by decide +kernel
theorem dX11_ahead_214 : decode cX11_ahead 214 = .ok (.iadd, 1) := by decide +kernel
theorem dX11_ahead_215 : decode cX11_ahead 215 = .ok (.putfield 132, 3) := by decide +kernel
theorem dX11_ahead_218 : decode cX11_ahead 218 = .ok (.aload_n 0, 1) := by decide +kernel
theorem dX11_ahead_219 : decode cX11_ahead 219 = .ok (.iload_n 1, 1) := by decide +kernel
theorem dX11_ahead_220 : decode cX11_ahead 220 = .ok (.bipush 59, 2) := by decide +kernel
theorem dX11_ahead_222 : decode cX11_ahead 222 = .ok (.if_icmp .eq 21, 3) := by decide +kernel
theorem dX11_ahead_225 : decode cX11_ahead 225 = .ok (.iload_n 1, 1) := by decide +kernel
theorem dX11_ahead_226 : decode cX11_ahead 226 = .ok (.bipush 60, 2) := by decide +kernel
theorem dX11_ahead_228 : decode cX11_ahead 228 = .ok (.if_icmp .eq 15, 3) := by decide +kernel
theorem dX11_ahead_231 : decode cX11_ahead 231 = .ok (.iload_n 1, 1) := by decide +kernel
theorem dX11_ahead_232 : decode cX11_ahead 232 = .ok (.bipush 62, 2) := by decide +kernel
theorem dX11_ahead_234 : decode cX11_ahead 234 = .ok (.if_icmp .eq 9, 3) := by decide +kernel
theorem dX11_ahead_237 : decode cX11_ahead 237 = .ok (.iload_n 1, 1) := by decide +kernel
theorem dX11_ahead_238 : decode cX11_ahead 238 = .ok (.bipush 61, 2) := by decide +kernel
theorem dX11_ahead_240 : decode cX11_ahead 240 = .ok (.if_icmp .ne 7, 3) := by decide +kernel
theorem dX11_ahead_243 : decode cX11_ahead 243 = .ok (.iconst 4, 1) := by decide +kernel
theorem dX11_ahead_244 : decode cX11_ahead 244 = .ok (.goto 4, 3) := by decide +kernel
theorem dX11_ahead_247 : decode cX11_ahead 247 = .ok (.iconst 1, 1) := by decide +kernel
theorem dX11_ahead_248 : decode cX11_ahead 248 = .ok (.putfield 144, 3) := by decide +kernel
theorem dX11_ahead_251 : decode cX11_ahead 251 = .ok (.return_, 1) := by decide +kernel
theorem dX11_isSign_0 : decode cX11_isSign 0 = .ok (.aload_n 0, 1) := by decide +kernel
theorem dX11_isSign_1 : decode cX11_isSign 1 = .ok (.getfield 144, 3) := by decide +kernel
theorem dX11_isSign_4 : decode cX11_isSign 4 = .ok (.iconst 4, 1) := by decide +kernel
theorem dX11_isSign_5 : decode cX11_isSign 5 = .ok (.if_icmp .ne 15, 3) := by decide +kernel
theorem dX11_isSign_8 : decode cX11_isSign 8 = .ok (.aload_n 0, 1) := by decide +kernel
theorem dX11_isSign_9 : decode cX11_isSign 9 = .ok (.getfield 141, 3) := by decide +kernel
theorem dX11_isSign_12 : decode cX11_isSign 12 = .ok (.iload_n 1, 1) := by decide +kernel
theorem dX11_isSign_13 : decode cX11_isSign 13 = .ok (.if_icmp .ne 7, 3) := by decide +kernel
theorem dX11_isSign_16 : decode cX11_isSign 16 = .ok (.iconst 1, 1) := by decide +kernel
theorem dX11_isSign_17 : decode cX11_isSign 17 = .ok (.goto 4, 3) := by decide +kernel
theorem dX11_isSign_20 : decode cX11_isSign 20 = .ok (.iconst 0, 1) := by decide +kernel
theorem dX11_isSign_21 : decode cX11_isSign 21 = .ok (.ireturn, 1) := by decide +kernel
theorem dX11_inWords_0 : decode cX11_inWords 0 = .ok (.aload_n 0, 1) := by decide +kernel
theorem dX11_inWords_1 : decode cX11_inWords 1 = .ok (.getfield 144, 3) := by decide +kernel
theorem dX11_inWords_4 : decode cX11_inWords 4 = .ok (.iconst 2, 1) := by decide +kernel
theorem dX11_inWords_5 : decode cX11_inWords 5 = .ok (.if_icmp .eq 5, 3) := by decide +kernel
theorem dX11_inWords_8 : decode cX11_inWords 8 = .ok (.iconst (-1), 1) := by decide +kernel
theorem dX11_inWords_9 : decode cX11_inWords 9 = .ok (.ireturn, 1) := by decide +kernel
theorem dX11_inWords_10 : decode cX11_inWords 10 = .ok (.iconst 0, 1) := by decide +kernel
theorem dX11_inWords_11 : decode cX11_inWords 11 = .ok (.istore_n 2, 1) := by decide +kernel
theorem dX11_inWords_12 : decode cX11_inWords 12 = .ok (.iconst 1, 1) := by decide +kernel
theorem dX11_inWords_13 : decode cX11_inWords 13 = .ok (.istore_n 3, 1) := by decide +kernel
theorem dX11_inWords_14 : decode cX11_inWords 14 = .ok (.iload_n 3, 1) := by decide +kernel
theorem dX11_inWords_15 : decode cX11_inWords 15 = .ok (.aload_n 1, 1) := by decide +kernel
theorem dX11_inWords_16 : decode cX11_inWords 16 = .ok (.invokevirtual 159, 3) := by decide +kernel
theorem dX11_inWords_19 : decode cX11_inWords 19 = .ok (.if_icmp .ge 114, 3) := by decide +kernel
theorem dX11_inWords_22 : decode cX11_inWords 22 = .ok (.iload_n 3, 1) := by decide +kernel
theorem dX11_inWords_23 : decode cX11_inWords 23 = .ok (.istore 4, 2) := by decide +kernel
theorem dX11_inWords_25 : decode cX11_inWords 25 = .ok (.aload_n 1, 1) := by decide +kernel
theorem dX11_inWords_26 : decode cX11_inWords 26 = .ok (.iload 4, 2) := by decide +kernel
theorem dX11_inWords_28 : decode cX11_inWords 28 = .ok (.invokevirtual 165, 3) := by decide +kernel
theorem dX11_inWords_31 : decode cX11_inWords 31 = .ok (.bipush 32, 2) := by decide +kernel
theorem dX11_inWords_33 : decode cX11_inWords 33 = .ok (.if_icmp .eq 9, 3) := by decide +kernel
theorem dX11_inWords_36 : decode cX11_inWords 36 = .ok (.iinc 4 1, 3) := by decide +kernel
theorem dX11_inWords_39 : decode cX11_inWords 39 = .ok (.goto (-14), 3) := by decide +kernel
theorem dX11_inWords_42 : decode cX11_inWords 42 = .ok (.iload 4, 2) := by decide +kernel
theorem dX11_inWords_44 : decode cX11_inWords 44 = .ok (.iload_n 3, 1) := by decide +kernel
theorem dX11_inWords_45 : decode cX11_inWords 45 = .ok (.isub, 1) := by decide +kernel
theorem dX11_inWords_46 : decode cX11_inWords 46 = .ok (.aload_n 0, 1) := by decide +kernel
theorem dX11_inWords_47 : decode cX11_inWords 47 = .ok (.getfield 132, 3) := by decide +kernel
theorem dX11_inWords_50 : decode cX11_inWords 50 = .ok (.aload_n 0, 1) := by decide +kernel
theorem dX11_inWords_51 : decode cX11_inWords 51 = .ok (.getfield 138, 3) := by decide +kernel
theorem dX11_inWords_54 : decode cX11_inWords 54 = .ok (.isub, 1) := by decide +kernel
theorem dX11_inWords_55 : decode cX11_inWords 55 = .ok (.if_icmp .ne 7, 3) := by decide +kernel
theorem dX11_inWords_58 : decode cX11_inWords 58 = .ok (.iconst 1, 1) := by decide +kernel
theorem dX11_inWords_59 : decode cX11_inWords 59 = .ok (.goto 4, 3) := by decide +kernel
theorem dX11_inWords_62 : decode cX11_inWords 62 = .ok (.iconst 0, 1) := by decide +kernel
theorem dX11_inWords_63 : decode cX11_inWords 63 = .ok (.istore 5, 2) := by decide +kernel
theorem dX11_inWords_65 : decode cX11_inWords 65 = .ok (.iload_n 3, 1) := by decide +kernel
theorem dX11_inWords_66 : decode cX11_inWords 66 = .ok (.istore 6, 2) := by decide +kernel
theorem dX11_inWords_68 : decode cX11_inWords 68 = .ok (.iload 6, 2) := by decide +kernel
theorem dX11_inWords_70 : decode cX11_inWords 70 = .ok (.iload 4, 2) := by decide +kernel
theorem dX11_inWords_72 : decode cX11_inWords 72 = .ok (.if_icmp .ge 43, 3) := by decide +kernel
theorem dX11_inWords_75 : decode cX11_inWords 75 = .ok (.iload 5, 2) := by decide +kernel
theorem dX11_inWords_77 : decode cX11_inWords 77 = .ok (.ifCond .eq 38, 3) := by decide +kernel
theorem dX11_inWords_80 : decode cX11_inWords 80 = .ok (.aload_n 1, 1) := by decide +kernel
theorem dX11_inWords_81 : decode cX11_inWords 81 = .ok (.iload 6, 2) := by decide +kernel
theorem dX11_inWords_83 : decode cX11_inWords 83 = .ok (.invokevirtual 165, 3) := by decide +kernel
theorem dX11_inWords_86 : decode cX11_inWords 86 = .ok (.aload_n 0, 1) := by decide +kernel
theorem dX11_inWords_87 : decode cX11_inWords 87 = .ok (.aload_n 0, 1) := by decide +kernel
theorem dX11_inWords_88 : decode cX11_inWords 88 = .ok (.getfield 138, 3) := by decide +kernel
theorem dX11_inWords_91 : decode cX11_inWords 91 = .ok (.iload 6, 2) := by decide +kernel
theorem dX11_inWords_93 : decode cX11_inWords 93 = .ok (.iadd, 1) := by decide +kernel
theorem dX11_inWords_94 : decode cX11_inWords 94 = .ok (.iload_n 3, 1) := by decide +kernel
theorem dX11_inWords_95 : decode cX11_inWords 95 = .ok (.isub, 1) := by decide +kernel
theorem dX11_inWords_96 : decode cX11_inWords 96 = .ok (.invokevirtual 135, 3) := by decide +kernel
theorem dX11_inWords_99 : decode cX11_inWords 99 = .ok (.if_icmp .ne 7, 3) := by decide +kernel
theorem dX11_inWords_102 : decode cX11_inWords 102 = .ok (.iconst 1, 1) := by decide +kernel
theorem dX11_inWords_103 : decode cX11_inWords 103 = .ok (.goto 4, 3) := by decide +kernel
theorem dX11_inWords_106 : decode cX11_inWords 106 = .ok (.iconst 0, 1) := by decide +kernel
theorem dX11_inWords_107 : decode cX11_inWords 107 = .ok (.istore 5, 2) := by decide +kernel
theorem dX11_inWords_109 : decode cX11_inWords 109 = .ok (.iinc 6 1, 3) := by decide +kernel
theorem dX11_inWords_112 : decode cX11_inWords 112 = .ok (.goto (-44), 3) := by decide +kernel
theorem dX11_inWords_115 : decode cX11_inWords 115 = .ok (.iload 5, 2) := by decide +kernel
theorem dX11_inWords_117 : decode cX11_inWords 117 = .ok (.ifCond .eq 5, 3) := by decide +kernel
theorem dX11_inWords_120 : decode cX11_inWords 120 = .ok (.iload_n 2, 1) := by decide +kernel
theorem dX11_inWords_121 : decode cX11_inWords 121 = .ok (.ireturn, 1) := by decide +kernel
theorem dX11_inWords_122 : decode cX11_inWords 122 = .ok (.iinc 2 1, 3) := by decide +kernel
theorem dX11_inWords_125 : decode cX11_inWords 125 = .ok (.iload 4, 2) := by decide +kernel
theorem dX11_inWords_127 : decode cX11_inWords 127 = .ok (.iconst 1, 1) := by decide +kernel
theorem dX11_inWords_128 : decode cX11_inWords 128 = .ok (.iadd, 1) := by decide +kernel
theorem dX11_inWords_129 : decode cX11_inWords 129 = .ok (.istore_n 3, 1) := by decide +kernel
theorem dX11_inWords_130 : decode cX11_inWords 130 = .ok (.goto (-116), 3) := by decide +kernel
theorem dX11_inWords_133 : decode cX11_inWords 133 = .ok (.iconst (-1), 1) := by decide +kernel
theorem dX11_inWords_134 : decode cX11_inWords 134 = .ok (.ireturn, 1) := by decide +kernel
theorem dX11_fails_0 : decode cX11_fails 0 = .ok (.aload_n 0, 1) := by decide +kernel
theorem dX11_fails_1 : decode cX11_fails 1 = .ok (.getfield 169, 3) := by decide +kernel
theorem dX11_fails_4 : decode cX11_fails 4 = .ok (.ifCond .ne 28, 3) := by decide +kernel
theorem dX11_fails_7 : decode cX11_fails 7 = .ok (.aload_n 0, 1) := by decide +kernel
theorem dX11_fails_8 : decode cX11_fails 8 = .ok (.aload_n 0, 1) := by decide +kernel
theorem dX11_fails_9 : decode cX11_fails 9 = .ok (.getfield 144, 3) := by decide +kernel
theorem dX11_fails_12 : decode cX11_fails 12 = .ok (.iconst 1, 1) := by decide +kernel
theorem dX11_fails_13 : decode cX11_fails 13 = .ok (.if_icmp .ne 7, 3) := by decide +kernel
theorem dX11_fails_16 : decode cX11_fails 16 = .ok (.iconst 1, 1) := by decide +kernel
theorem dX11_fails_17 : decode cX11_fails 17 = .ok (.goto 4, 3) := by decide +kernel
theorem dX11_fails_20 : decode cX11_fails 20 = .ok (.iload_n 1, 1) := by decide +kernel
theorem dX11_fails_21 : decode cX11_fails 21 = .ok (.putfield 169, 3) := by decide +kernel
theorem dX11_fails_24 : decode cX11_fails 24 = .ok (.aload_n 0, 1) := by decide +kernel
theorem dX11_fails_25 : decode cX11_fails 25 = .ok (.aload_n 0, 1) := by decide +kernel
theorem dX11_fails_26 : decode cX11_fails 26 = .ok (.getfield 138, 3) := by decide +kernel
theorem dX11_fails_29 : decode cX11_fails 29 = .ok (.putfield 41, 3) := by decide +kernel
theorem dX11_fails_32 : decode cX11_fails 32 = .ok (.iconst 0, 1) := by decide +kernel
theorem dX11_fails_33 : decode cX11_fails 33 = .ok (.ireturn, 1) := by decide +kernel
theorem dX11_begins_0 : decode cX11_begins 0 = .ok (.iload_n 1, 1) := by decide +kernel
theorem dX11_begins_1 : decode cX11_begins 1 = .ok (.ifCond .lt 16, 3) := by decide +kernel
theorem dX11_begins_4 : decode cX11_begins 4 = .ok (.iload_n 1, 1) := by decide +kernel
theorem dX11_begins_5 : decode cX11_begins 5 = .ok (.aload_n 0, 1) := by decide +kernel
theorem dX11_begins_6 : decode cX11_begins 6 = .ok (.getfield 123, 3) := by decide +kernel
theorem dX11_begins_9 : decode cX11_begins 9 = .ok (.if_icmp .gt 8, 3) := by decide +kernel
theorem dX11_begins_12 : decode cX11_begins 12 = .ok (.iload_n 1, 1) := by decide +kernel
theorem dX11_begins_13 : decode cX11_begins 13 = .ok (.iload_n 2, 1) := by decide +kernel
theorem dX11_begins_14 : decode cX11_begins 14 = .ok (.if_icmp .le 5, 3) := by decide +kernel
theorem dX11_begins_17 : decode cX11_begins 17 = .ok (.iconst 0, 1) := by decide +kernel
theorem dX11_begins_18 : decode cX11_begins 18 = .ok (.ireturn, 1) := by decide +kernel
theorem dX11_begins_19 : decode cX11_begins 19 = .ok (.aload_n 0, 1) := by decide +kernel
theorem dX11_begins_20 : decode cX11_begins 20 = .ok (.iload_n 1, 1) := by decide +kernel
theorem dX11_begins_21 : decode cX11_begins 21 = .ok (.putfield 129, 3) := by decide +kernel
theorem dX11_begins_24 : decode cX11_begins 24 = .ok (.iconst 0, 1) := by decide +kernel
theorem dX11_begins_25 : decode cX11_begins 25 = .ok (.istore_n 3, 1) := by decide +kernel
theorem dX11_begins_26 : decode cX11_begins 26 = .ok (.iload_n 3, 1) := by decide +kernel
theorem dX11_begins_27 : decode cX11_begins 27 = .ok (.iload_n 1, 1) := by decide +kernel
theorem dX11_begins_28 : decode cX11_begins 28 = .ok (.if_icmp .ge 21, 3) := by decide +kernel
theorem dX11_begins_31 : decode cX11_begins 31 = .ok (.aload_n 0, 1) := by decide +kernel
theorem dX11_begins_32 : decode cX11_begins 32 = .ok (.getfield 34, 3) := by decide +kernel
theorem dX11_begins_35 : decode cX11_begins 35 = .ok (.iload_n 3, 1) := by decide +kernel
theorem dX11_begins_36 : decode cX11_begins 36 = .ok (.aload_n 0, 1) := by decide +kernel
theorem dX11_begins_37 : decode cX11_begins 37 = .ok (.getfield 30, 3) := by decide +kernel
theorem dX11_begins_40 : decode cX11_begins 40 = .ok (.iload_n 3, 1) := by decide +kernel
theorem dX11_begins_41 : decode cX11_begins 41 = .ok (.baload, 1) := by decide +kernel
theorem dX11_begins_42 : decode cX11_begins 42 = .ok (.bastore, 1) := by decide +kernel
theorem dX11_begins_43 : decode cX11_begins 43 = .ok (.iinc 3 1, 3) := by decide +kernel
theorem dX11_begins_46 : decode cX11_begins 46 = .ok (.goto (-20), 3) := by decide +kernel
theorem dX11_begins_49 : decode cX11_begins 49 = .ok (.aload_n 0, 1) := by decide +kernel
theorem dX11_begins_50 : decode cX11_begins 50 = .ok (.iconst 0, 1) := by decide +kernel
theorem dX11_begins_51 : decode cX11_begins 51 = .ok (.putfield 123, 3) := by decide +kernel
theorem dX11_begins_54 : decode cX11_begins 54 = .ok (.aload_n 0, 1) := by decide +kernel
theorem dX11_begins_55 : decode cX11_begins 55 = .ok (.iconst 0, 1) := by decide +kernel
theorem dX11_begins_56 : decode cX11_begins 56 = .ok (.putfield 169, 3) := by decide +kernel
theorem dX11_begins_59 : decode cX11_begins 59 = .ok (.aload_n 0, 1) := by decide +kernel
theorem dX11_begins_60 : decode cX11_begins 60 = .ok (.iconst (-1), 1) := by decide +kernel
theorem dX11_begins_61 : decode cX11_begins 61 = .ok (.putfield 41, 3) := by decide +kernel
theorem dX11_begins_64 : decode cX11_begins 64 = .ok (.aload_n 0, 1) := by decide +kernel
theorem dX11_begins_65 : decode cX11_begins 65 = .ok (.iconst 0, 1) := by decide +kernel
theorem dX11_begins_66 : decode cX11_begins 66 = .ok (.putfield 132, 3) := by decide +kernel
theorem dX11_begins_69 : decode cX11_begins 69 = .ok (.aload_n 0, 1) := by decide +kernel
theorem dX11_begins_70 : decode cX11_begins 70 = .ok (.iconst 0, 1) := by decide +kernel
theorem dX11_begins_71 : decode cX11_begins 71 = .ok (.putfield 172, 3) := by decide +kernel
theorem dX11_begins_74 : decode cX11_begins 74 = .ok (.aload_n 0, 1) := by decide +kernel
theorem dX11_begins_75 : decode cX11_begins 75 = .ok (.invokevirtual 175, 3) := by decide +kernel
theorem dX11_begins_78 : decode cX11_begins 78 = .ok (.iconst 1, 1) := by decide +kernel
theorem dX11_begins_79 : decode cX11_begins 79 = .ok (.ireturn, 1) := by decide +kernel
theorem dX11_wantSign_0 : decode cX11_wantSign 0 = .ok (.aload_n 0, 1) := by decide +kernel
theorem dX11_wantSign_1 : decode cX11_wantSign 1 = .ok (.iload_n 1, 1) := by decide +kernel
theorem dX11_wantSign_2 : decode cX11_wantSign 2 = .ok (.invokevirtual 178, 3) := by decide +kernel
theorem dX11_wantSign_5 : decode cX11_wantSign 5 = .ok (.ifCond .ne 9, 3) := by decide +kernel
theorem dX11_wantSign_8 : decode cX11_wantSign 8 = .ok (.aload_n 0, 1) := by decide +kernel
theorem dX11_wantSign_9 : decode cX11_wantSign 9 = .ok (.iconst 2, 1) := by decide +kernel
theorem dX11_wantSign_10 : decode cX11_wantSign 10 = .ok (.invokevirtual 181, 3) := by decide +kernel
theorem dX11_wantSign_13 : decode cX11_wantSign 13 = .ok (.ireturn, 1) := by decide +kernel
theorem dX11_wantSign_14 : decode cX11_wantSign 14 = .ok (.aload_n 0, 1) := by decide +kernel
theorem dX11_wantSign_15 : decode cX11_wantSign 15 = .ok (.invokevirtual 175, 3) := by decide +kernel
theorem dX11_wantSign_18 : decode cX11_wantSign 18 = .ok (.iconst 1, 1) := by decide +kernel
theorem dX11_wantSign_19 : decode cX11_wantSign 19 = .ok (.ireturn, 1) := by decide +kernel
theorem dX11_wantWord_0 : decode cX11_wantWord 0 = .ok (.aload_n 0, 1) := by decide +kernel
theorem dX11_wantWord_1 : decode cX11_wantWord 1 = .ok (.aload_n 1, 1) := by decide +kernel
theorem dX11_wantWord_2 : decode cX11_wantWord 2 = .ok (.invokevirtual 184, 3) := by decide +kernel
theorem dX11_wantWord_5 : decode cX11_wantWord 5 = .ok (.iload_n 2, 1) := by decide +kernel
theorem dX11_wantWord_6 : decode cX11_wantWord 6 = .ok (.if_icmp .eq 9, 3) := by decide +kernel
theorem dX11_wantWord_9 : decode cX11_wantWord 9 = .ok (.aload_n 0, 1) := by decide +kernel
theorem dX11_wantWord_10 : decode cX11_wantWord 10 = .ok (.iconst 2, 1) := by decide +kernel
theorem dX11_wantWord_11 : decode cX11_wantWord 11 = .ok (.invokevirtual 181, 3) := by decide +kernel
theorem dX11_wantWord_14 : decode cX11_wantWord 14 = .ok (.ireturn, 1) := by decide +kernel
theorem dX11_wantWord_15 : decode cX11_wantWord 15 = .ok (.aload_n 0, 1) := by decide +kernel
theorem dX11_wantWord_16 : decode cX11_wantWord 16 = .ok (.invokevirtual 175, 3) := by decide +kernel
theorem dX11_wantWord_19 : decode cX11_wantWord 19 = .ok (.iconst 1, 1) := by decide +kernel
theorem dX11_wantWord_20 : decode cX11_wantWord 20 = .ok (.ireturn, 1) := by decide +kernel
theorem dX11_number_0 : decode cX11_number 0 = .ok (.aload_n 0, 1) := by decide +kernel
theorem dX11_number_1 : decode cX11_number 1 = .ok (.getfield 144, 3) := by decide +kernel
theorem dX11_number_4 : decode cX11_number 4 = .ok (.iconst 3, 1) := by decide +kernel
theorem dX11_number_5 : decode cX11_number 5 = .ok (.if_icmp .eq 9, 3) := by decide +kernel
theorem dX11_number_8 : decode cX11_number 8 = .ok (.aload_n 0, 1) := by decide +kernel
theorem dX11_number_9 : decode cX11_number 9 = .ok (.iconst 2, 1) := by decide +kernel
theorem dX11_number_10 : decode cX11_number 10 = .ok (.invokevirtual 181, 3) := by decide +kernel
theorem dX11_number_13 : decode cX11_number 13 = .ok (.ireturn, 1) := by decide +kernel
theorem dX11_number_14 : decode cX11_number 14 = .ok (.aload_n 0, 1) := by decide +kernel
theorem dX11_number_15 : decode cX11_number 15 = .ok (.getfield 141, 3) := by decide +kernel
theorem dX11_number_18 : decode cX11_number 18 = .ok (.iload_n 2, 1) := by decide +kernel
theorem dX11_number_19 : decode cX11_number 19 = .ok (.if_icmp .lt 11, 3) := by decide +kernel
theorem dX11_number_22 : decode cX11_number 22 = .ok (.aload_n 0, 1) := by decide +kernel
theorem dX11_number_23 : decode cX11_number 23 = .ok (.getfield 141, 3) := by decide +kernel
theorem dX11_number_26 : decode cX11_number 26 = .ok (.iload_n 3, 1) := by decide +kernel
theorem dX11_number_27 : decode cX11_number 27 = .ok (.if_icmp .le 9, 3) := by decide +kernel
theorem dX11_number_30 : decode cX11_number 30 = .ok (.aload_n 0, 1) := by decide +kernel
theorem dX11_number_31 : decode cX11_number 31 = .ok (.iconst 4, 1) := by decide +kernel
theorem dX11_number_32 : decode cX11_number 32 = .ok (.invokevirtual 181, 3) := by decide +kernel
theorem dX11_number_35 : decode cX11_number 35 = .ok (.ireturn, 1) := by decide +kernel
theorem dX11_number_36 : decode cX11_number 36 = .ok (.aload_n 0, 1) := by decide +kernel
theorem dX11_number_37 : decode cX11_number 37 = .ok (.getfield 7, 3) := by decide +kernel
theorem dX11_number_40 : decode cX11_number 40 = .ok (.iload_n 1, 1) := by decide +kernel
theorem dX11_number_41 : decode cX11_number 41 = .ok (.aload_n 0, 1) := by decide +kernel
theorem dX11_number_42 : decode cX11_number 42 = .ok (.getfield 141, 3) := by decide +kernel
theorem dX11_number_45 : decode cX11_number 45 = .ok (.iastore, 1) := by decide +kernel
theorem dX11_number_46 : decode cX11_number 46 = .ok (.aload_n 0, 1) := by decide +kernel
theorem dX11_number_47 : decode cX11_number 47 = .ok (.invokevirtual 175, 3) := by decide +kernel
theorem dX11_number_50 : decode cX11_number 50 = .ok (.iconst 1, 1) := by decide +kernel
theorem dX11_number_51 : decode cX11_number 51 = .ok (.ireturn, 1) := by decide +kernel
theorem dX11_isName_0 : decode cX11_isName 0 = .ok (.aload_n 0, 1) := by decide +kernel
theorem dX11_isName_1 : decode cX11_isName 1 = .ok (.getfield 144, 3) := by decide +kernel
theorem dX11_isName_4 : decode cX11_isName 4 = .ok (.iconst 2, 1) := by decide +kernel
theorem dX11_isName_5 : decode cX11_isName 5 = .ok (.if_icmp .ne 30, 3) := by decide +kernel
theorem dX11_isName_8 : decode cX11_isName 8 = .ok (.aload_n 0, 1) := by decide +kernel
theorem dX11_isName_9 : decode cX11_isName 9 = .ok (.getfield 132, 3) := by decide +kernel
theorem dX11_isName_12 : decode cX11_isName 12 = .ok (.aload_n 0, 1) := by decide +kernel
theorem dX11_isName_13 : decode cX11_isName 13 = .ok (.getfield 138, 3) := by decide +kernel
theorem dX11_isName_16 : decode cX11_isName 16 = .ok (.isub, 1) := by decide +kernel
theorem dX11_isName_17 : decode cX11_isName 17 = .ok (.bipush 8, 2) := by decide +kernel
theorem dX11_isName_19 : decode cX11_isName 19 = .ok (.if_icmp .gt 16, 3) := by decide +kernel
theorem dX11_isName_22 : decode cX11_isName 22 = .ok (.aload_n 0, 1) := by decide +kernel
theorem dX11_isName_23 : decode cX11_isName 23 = .ok (.aload_n 1, 1) := by decide +kernel
theorem dX11_isName_24 : decode cX11_isName 24 = .ok (.invokevirtual 184, 3) := by decide +kernel
theorem dX11_isName_27 : decode cX11_isName 27 = .ok (.iconst (-1), 1) := by decide +kernel
theorem dX11_isName_28 : decode cX11_isName 28 = .ok (.if_icmp .ne 7, 3) := by decide +kernel
theorem dX11_isName_31 : decode cX11_isName 31 = .ok (.iconst 1, 1) := by decide +kernel
theorem dX11_isName_32 : decode cX11_isName 32 = .ok (.goto 4, 3) := by decide +kernel
theorem dX11_isName_35 : decode cX11_isName 35 = .ok (.iconst 0, 1) := by decide +kernel
theorem dX11_isName_36 : decode cX11_isName 36 = .ok (.ireturn, 1) := by decide +kernel
theorem dX11_nameHere_0 : decode cX11_nameHere 0 = .ok (.lconst 0, 1) := by decide +kernel
theorem dX11_nameHere_1 : decode cX11_nameHere 1 = .ok (.lstore_n 1, 1) := by decide +kernel
theorem dX11_nameHere_2 : decode cX11_nameHere 2 = .ok (.aload_n 0, 1) := by decide +kernel
theorem dX11_nameHere_3 : decode cX11_nameHere 3 = .ok (.getfield 138, 3) := by decide +kernel
theorem dX11_nameHere_6 : decode cX11_nameHere 6 = .ok (.istore_n 3, 1) := by decide +kernel
theorem dX11_nameHere_7 : decode cX11_nameHere 7 = .ok (.iload_n 3, 1) := by decide +kernel
theorem dX11_nameHere_8 : decode cX11_nameHere 8 = .ok (.aload_n 0, 1) := by decide +kernel
theorem dX11_nameHere_9 : decode cX11_nameHere 9 = .ok (.getfield 132, 3) := by decide +kernel
theorem dX11_nameHere_12 : decode cX11_nameHere 12 = .ok (.if_icmp .ge 21, 3) := by decide +kernel
theorem dX11_nameHere_15 : decode cX11_nameHere 15 = .ok (.lload_n 1, 1) := by decide +kernel
theorem dX11_nameHere_16 : decode cX11_nameHere 16 = .ok (.bipush 8, 2) := by decide +kernel
theorem dX11_nameHere_18 : decode cX11_nameHere 18 = .ok (.lshl, 1) := by decide +kernel
theorem dX11_nameHere_19 : decode cX11_nameHere 19 = .ok (.aload_n 0, 1) := by decide +kernel
theorem dX11_nameHere_20 : decode cX11_nameHere 20 = .ok (.iload_n 3, 1) := by decide +kernel
theorem dX11_nameHere_21 : decode cX11_nameHere 21 = .ok (.invokevirtual 135, 3) := by decide +kernel
theorem dX11_nameHere_24 : decode cX11_nameHere 24 = .ok (.i2l, 1) := by decide +kernel
theorem dX11_nameHere_25 : decode cX11_nameHere 25 = .ok (.lor, 1) := by decide +kernel
theorem dX11_nameHere_26 : decode cX11_nameHere 26 = .ok (.lstore_n 1, 1) := by decide +kernel
theorem dX11_nameHere_27 : decode cX11_nameHere 27 = .ok (.iinc 3 1, 3) := by decide +kernel
theorem dX11_nameHere_30 : decode cX11_nameHere 30 = .ok (.goto (-23), 3) := by decide +kernel
theorem dX11_nameHere_33 : decode cX11_nameHere 33 = .ok (.lload_n 1, 1) := by decide +kernel
theorem dX11_nameHere_34 : decode cX11_nameHere 34 = .ok (.lreturn, 1) := by decide +kernel
theorem dX11_findHere_0 : decode cX11_findHere 0 = .ok (.iconst 0, 1) := by decide +kernel
theorem dX11_findHere_1 : decode cX11_findHere 1 = .ok (.istore_n 3, 1) := by decide +kernel
theorem dX11_findHere_2 : decode cX11_findHere 2 = .ok (.iload_n 3, 1) := by decide +kernel
theorem dX11_findHere_3 : decode cX11_findHere 3 = .ok (.iload_n 2, 1) := by decide +kernel
theorem dX11_findHere_4 : decode cX11_findHere 4 = .ok (.if_icmp .ge 27, 3) := by decide +kernel
theorem dX11_findHere_7 : decode cX11_findHere 7 = .ok (.aload_n 0, 1) := by decide +kernel
theorem dX11_findHere_8 : decode cX11_findHere 8 = .ok (.getfield 13, 3) := by decide +kernel
theorem dX11_findHere_11 : decode cX11_findHere 11 = .ok (.iload_n 1, 1) := by decide +kernel
theorem dX11_findHere_12 : decode cX11_findHere 12 = .ok (.iload_n 3, 1) := by decide +kernel
theorem dX11_findHere_13 : decode cX11_findHere 13 = .ok (.iadd, 1) := by decide +kernel
theorem dX11_findHere_14 : decode cX11_findHere 14 = .ok (.laload, 1) := by decide +kernel
theorem dX11_findHere_15 : decode cX11_findHere 15 = .ok (.aload_n 0, 1) := by decide +kernel
theorem dX11_findHere_16 : decode cX11_findHere 16 = .ok (.invokevirtual 188, 3) := by decide +kernel
theorem dX11_findHere_19 : decode cX11_findHere 19 = .ok (.lcmp, 1) := by decide +kernel
theorem dX11_findHere_20 : decode cX11_findHere 20 = .ok (.ifCond .ne 5, 3) := by decide +kernel
theorem dX11_findHere_23 : decode cX11_findHere 23 = .ok (.iload_n 3, 1) := by decide +kernel
theorem dX11_findHere_24 : decode cX11_findHere 24 = .ok (.ireturn, 1) := by decide +kernel
theorem dX11_findHere_25 : decode cX11_findHere 25 = .ok (.iinc 3 1, 3) := by decide +kernel
theorem dX11_findHere_28 : decode cX11_findHere 28 = .ok (.goto (-26), 3) := by decide +kernel
theorem dX11_findHere_31 : decode cX11_findHere 31 = .ok (.iconst (-1), 1) := by decide +kernel
theorem dX11_findHere_32 : decode cX11_findHere 32 = .ok (.ireturn, 1) := by decide +kernel
theorem dX11_fault_0 : decode cX11_fault 0 = .ok (.iload_n 1, 1) := by decide +kernel
theorem dX11_fault_1 : decode cX11_fault 1 = .ok (.ifCond .ne 10, 3) := by decide +kernel
theorem dX11_fault_4 : decode cX11_fault 4 = .ok (.aload_n 0, 1) := by decide +kernel
theorem dX11_fault_5 : decode cX11_fault 5 = .ok (.getfield 37, 3) := by decide +kernel
theorem dX11_fault_8 : decode cX11_fault 8 = .ok (.goto 16, 3) := by decide +kernel
theorem dX11_fault_11 : decode cX11_fault 11 = .ok (.iload_n 1, 1) := by decide +kernel
theorem dX11_fault_12 : decode cX11_fault 12 = .ok (.iconst 1, 1) := by decide +kernel
theorem dX11_fault_13 : decode cX11_fault 13 = .ok (.if_icmp .ne 10, 3) := by decide +kernel
theorem dX11_fault_16 : decode cX11_fault 16 = .ok (.aload_n 0, 1) := by decide +kernel
theorem dX11_fault_17 : decode cX11_fault 17 = .ok (.getfield 41, 3) := by decide +kernel
theorem dX11_fault_20 : decode cX11_fault 20 = .ok (.goto 4, 3) := by decide +kernel
theorem dX11_fault_23 : decode cX11_fault 23 = .ok (.iconst (-1), 1) := by decide +kernel
theorem dX11_fault_24 : decode cX11_fault 24 = .ok (.ireturn, 1) := by decide +kernel
theorem dX11_taken_0 : decode cX11_taken 0 = .ok (.aload_n 0, 1) := by decide +kernel
theorem dX11_taken_1 : decode cX11_taken 1 = .ok (.aload_n 0, 1) := by decide +kernel
theorem dX11_taken_2 : decode cX11_taken 2 = .ok (.getfield 169, 3) := by decide +kernel
theorem dX11_taken_5 : decode cX11_taken 5 = .ok (.putfield 37, 3) := by decide +kernel
theorem dX11_taken_8 : decode cX11_taken 8 = .ok (.aload_n 0, 1) := by decide +kernel
theorem dX11_taken_9 : decode cX11_taken 9 = .ok (.getfield 169, 3) := by decide +kernel
theorem dX11_taken_12 : decode cX11_taken 12 = .ok (.ifCond .le 12, 3) := by decide +kernel
theorem dX11_taken_15 : decode cX11_taken 15 = .ok (.aload_n 0, 1) := by decide +kernel
theorem dX11_taken_16 : decode cX11_taken 16 = .ok (.bipush 9, 2) := by decide +kernel
theorem dX11_taken_18 : decode cX11_taken 18 = .ok (.invokevirtual 99, 3) := by decide +kernel
theorem dX11_taken_21 : decode cX11_taken 21 = .ok (.goto 8, 3) := by decide +kernel
theorem dX11_taken_24 : decode cX11_taken 24 = .ok (.aload_n 0, 1) := by decide +kernel
theorem dX11_taken_25 : decode cX11_taken 25 = .ok (.iload_n 1, 1) := by decide +kernel
theorem dX11_taken_26 : decode cX11_taken 26 = .ok (.invokevirtual 103, 3) := by decide +kernel
theorem dX11_taken_29 : decode cX11_taken 29 = .ok (.ireturn, 1) := by decide +kernel
theorem dX11_bedRow_0 : decode cX11_bedRow 0 = .ok (.bipush 10, 2) := by decide +kernel
theorem dX11_bedRow_2 : decode cX11_bedRow 2 = .ok (.iconst 2, 1) := by decide +kernel
theorem dX11_bedRow_3 : decode cX11_bedRow 3 = .ok (.iload_n 0, 1) := by decide +kernel
theorem dX11_bedRow_4 : decode cX11_bedRow 4 = .ok (.imul, 1) := by decide +kernel
theorem dX11_bedRow_5 : decode cX11_bedRow 5 = .ok (.iadd, 1) := by decide +kernel
theorem dX11_bedRow_6 : decode cX11_bedRow 6 = .ok (.ireturn, 1) := by decide +kernel
theorem dX11_claimRow_0 : decode cX11_claimRow 0 = .ok (.bipush 30, 2) := by decide +kernel
theorem dX11_claimRow_2 : decode cX11_claimRow 2 = .ok (.iconst 3, 1) := by decide +kernel
theorem dX11_claimRow_3 : decode cX11_claimRow 3 = .ok (.iload_n 0, 1) := by decide +kernel
theorem dX11_claimRow_4 : decode cX11_claimRow 4 = .ok (.imul, 1) := by decide +kernel
theorem dX11_claimRow_5 : decode cX11_claimRow 5 = .ok (.iadd, 1) := by decide +kernel
theorem dX11_claimRow_6 : decode cX11_claimRow 6 = .ok (.ireturn, 1) := by decide +kernel
theorem dX11_scholarRow_0 : decode cX11_scholarRow 0 = .ok (.bipush 51, 2) := by decide +kernel
theorem dX11_scholarRow_2 : decode cX11_scholarRow 2 = .ok (.iconst 2, 1) := by decide +kernel
theorem dX11_scholarRow_3 : decode cX11_scholarRow 3 = .ok (.iload_n 0, 1) := by decide +kernel
theorem dX11_scholarRow_4 : decode cX11_scholarRow 4 = .ok (.imul, 1) := by decide +kernel
theorem dX11_scholarRow_5 : decode cX11_scholarRow 5 = .ok (.iadd, 1) := by decide +kernel
theorem dX11_scholarRow_6 : decode cX11_scholarRow 6 = .ok (.ireturn, 1) := by decide +kernel
theorem dX11_isIn_0 : decode cX11_isIn 0 = .ok (.iload_n 1, 1) := by decide +kernel
theorem dX11_isIn_1 : decode cX11_isIn 1 = .ok (.iload_n 2, 1) := by decide +kernel
theorem dX11_isIn_2 : decode cX11_isIn 2 = .ok (.ishr, 1) := by decide +kernel
theorem dX11_isIn_3 : decode cX11_isIn 3 = .ok (.iconst 1, 1) := by decide +kernel
theorem dX11_isIn_4 : decode cX11_isIn 4 = .ok (.iand, 1) := by decide +kernel
theorem dX11_isIn_5 : decode cX11_isIn 5 = .ok (.iconst 1, 1) := by decide +kernel
theorem dX11_isIn_6 : decode cX11_isIn 6 = .ok (.if_icmp .ne 7, 3) := by decide +kernel
theorem dX11_isIn_9 : decode cX11_isIn 9 = .ok (.iconst 1, 1) := by decide +kernel
theorem dX11_isIn_10 : decode cX11_isIn 10 = .ok (.goto 4, 3) := by decide +kernel
theorem dX11_isIn_13 : decode cX11_isIn 13 = .ok (.iconst 0, 1) := by decide +kernel
theorem dX11_isIn_14 : decode cX11_isIn 14 = .ok (.ireturn, 1) := by decide +kernel
theorem dX11_isThere_0 : decode cX11_isThere 0 = .ok (.aload_n 0, 1) := by decide +kernel
theorem dX11_isThere_1 : decode cX11_isThere 1 = .ok (.ldc 192, 2) := by decide +kernel
theorem dX11_isThere_3 : decode cX11_isThere 3 = .ok (.invokevirtual 184, 3) := by decide +kernel
theorem dX11_isThere_6 : decode cX11_isThere 6 = .ok (.iload_n 1, 1) := by decide +kernel
theorem dX11_isThere_7 : decode cX11_isThere 7 = .ok (.if_icmp .eq 5, 3) := by decide +kernel
theorem dX11_isThere_10 : decode cX11_isThere 10 = .ok (.iconst 0, 1) := by decide +kernel
theorem dX11_isThere_11 : decode cX11_isThere 11 = .ok (.ireturn, 1) := by decide +kernel
theorem dX11_isThere_12 : decode cX11_isThere 12 = .ok (.aload_n 0, 1) := by decide +kernel
theorem dX11_isThere_13 : decode cX11_isThere 13 = .ok (.invokevirtual 175, 3) := by decide +kernel
theorem dX11_isThere_16 : decode cX11_isThere 16 = .ok (.iconst 1, 1) := by decide +kernel
theorem dX11_isThere_17 : decode cX11_isThere 17 = .ok (.ireturn, 1) := by decide +kernel
theorem dX11_perhaps_0 : decode cX11_perhaps 0 = .ok (.aload_n 0, 1) := by decide +kernel
theorem dX11_perhaps_1 : decode cX11_perhaps 1 = .ok (.iload_n 1, 1) := by decide +kernel
theorem dX11_perhaps_2 : decode cX11_perhaps 2 = .ok (.invokevirtual 194, 3) := by decide +kernel
theorem dX11_perhaps_5 : decode cX11_perhaps 5 = .ok (.ifCond .eq 12, 3) := by decide +kernel
theorem dX11_perhaps_8 : decode cX11_perhaps 8 = .ok (.aload_n 0, 1) := by decide +kernel
theorem dX11_perhaps_9 : decode cX11_perhaps 9 = .ok (.iload_n 2, 1) := by decide +kernel
theorem dX11_perhaps_10 : decode cX11_perhaps 10 = .ok (.iload_n 3, 1) := by decide +kernel
theorem dX11_perhaps_11 : decode cX11_perhaps 11 = .ok (.iload 4, 2) := by decide +kernel
theorem dX11_perhaps_13 : decode cX11_perhaps 13 = .ok (.invokevirtual 197, 3) := by decide +kernel
theorem dX11_perhaps_16 : decode cX11_perhaps 16 = .ok (.ireturn, 1) := by decide +kernel
theorem dX11_perhaps_17 : decode cX11_perhaps 17 = .ok (.aload_n 0, 1) := by decide +kernel
theorem dX11_perhaps_18 : decode cX11_perhaps 18 = .ok (.getfield 7, 3) := by decide +kernel
theorem dX11_perhaps_21 : decode cX11_perhaps 21 = .ok (.iload_n 2, 1) := by decide +kernel
theorem dX11_perhaps_22 : decode cX11_perhaps 22 = .ok (.iload 5, 2) := by decide +kernel
theorem dX11_perhaps_24 : decode cX11_perhaps 24 = .ok (.iastore, 1) := by decide +kernel
theorem dX11_perhaps_25 : decode cX11_perhaps 25 = .ok (.iconst 1, 1) := by decide +kernel
theorem dX11_perhaps_26 : decode cX11_perhaps 26 = .ok (.ireturn, 1) := by decide +kernel
theorem dX11_isFull_0 : decode cX11_isFull 0 = .ok (.aload_n 0, 1) := by decide +kernel
theorem dX11_isFull_1 : decode cX11_isFull 1 = .ok (.getfield 7, 3) := by decide +kernel
theorem dX11_isFull_4 : decode cX11_isFull 4 = .ok (.sipush 1712, 3) := by decide +kernel
theorem dX11_isFull_7 : decode cX11_isFull 7 = .ok (.iload_n 1, 1) := by decide +kernel
theorem dX11_isFull_8 : decode cX11_isFull 8 = .ok (.iadd, 1) := by decide +kernel
theorem dX11_isFull_9 : decode cX11_isFull 9 = .ok (.iaload, 1) := by decide +kernel
theorem dX11_isFull_10 : decode cX11_isFull 10 = .ok (.iload_n 2, 1) := by decide +kernel
theorem dX11_isFull_11 : decode cX11_isFull 11 = .ok (.if_icmp .ne 7, 3) := by decide +kernel
theorem dX11_isFull_14 : decode cX11_isFull 14 = .ok (.iconst 1, 1) := by decide +kernel
theorem dX11_isFull_15 : decode cX11_isFull 15 = .ok (.goto 4, 3) := by decide +kernel
theorem dX11_isFull_18 : decode cX11_isFull 18 = .ok (.iconst 0, 1) := by decide +kernel
theorem dX11_isFull_19 : decode cX11_isFull 19 = .ok (.ireturn, 1) := by decide +kernel
theorem dX11_isOld_0 : decode cX11_isOld 0 = .ok (.aload_n 0, 1) := by decide +kernel
theorem dX11_isOld_1 : decode cX11_isOld 1 = .ok (.bipush 76, 2) := by decide +kernel
theorem dX11_isOld_3 : decode cX11_isOld 3 = .ok (.aload_n 0, 1) := by decide +kernel
theorem dX11_isOld_4 : decode cX11_isOld 4 = .ok (.getfield 7, 3) := by decide +kernel
theorem dX11_isOld_7 : decode cX11_isOld 7 = .ok (.sipush 1713, 3) := by decide +kernel
theorem dX11_isOld_10 : decode cX11_isOld 10 = .ok (.iaload, 1) := by decide +kernel
theorem dX11_isOld_11 : decode cX11_isOld 11 = .ok (.invokevirtual 201, 3) := by decide +kernel
theorem dX11_isOld_14 : decode cX11_isOld 14 = .ok (.iconst (-1), 1) := by decide +kernel
theorem dX11_isOld_15 : decode cX11_isOld 15 = .ok (.if_icmp .ne 21, 3) := by decide +kernel
theorem dX11_isOld_18 : decode cX11_isOld 18 = .ok (.aload_n 0, 1) := by decide +kernel
theorem dX11_isOld_19 : decode cX11_isOld 19 = .ok (.bipush 84, 2) := by decide +kernel
theorem dX11_isOld_21 : decode cX11_isOld 21 = .ok (.aload_n 0, 1) := by decide +kernel
theorem dX11_isOld_22 : decode cX11_isOld 22 = .ok (.getfield 7, 3) := by decide +kernel
theorem dX11_isOld_25 : decode cX11_isOld 25 = .ok (.sipush 1714, 3) := by decide +kernel
theorem dX11_isOld_28 : decode cX11_isOld 28 = .ok (.iaload, 1) := by decide +kernel
theorem dX11_isOld_29 : decode cX11_isOld 29 = .ok (.invokevirtual 201, 3) := by decide +kernel
theorem dX11_isOld_32 : decode cX11_isOld 32 = .ok (.iconst (-1), 1) := by decide +kernel
theorem dX11_isOld_33 : decode cX11_isOld 33 = .ok (.if_icmp .eq 5, 3) := by decide +kernel
theorem dX11_isOld_36 : decode cX11_isOld 36 = .ok (.iconst 1, 1) := by decide +kernel
theorem dX11_isOld_37 : decode cX11_isOld 37 = .ok (.ireturn, 1) := by decide +kernel
theorem dX11_isOld_38 : decode cX11_isOld 38 = .ok (.aload_n 0, 1) := by decide +kernel
theorem dX11_isOld_39 : decode cX11_isOld 39 = .ok (.bipush 91, 2) := by decide +kernel
theorem dX11_isOld_41 : decode cX11_isOld 41 = .ok (.aload_n 0, 1) := by decide +kernel
theorem dX11_isOld_42 : decode cX11_isOld 42 = .ok (.getfield 7, 3) := by decide +kernel
theorem dX11_isOld_45 : decode cX11_isOld 45 = .ok (.sipush 1715, 3) := by decide +kernel
theorem dX11_isOld_48 : decode cX11_isOld 48 = .ok (.iaload, 1) := by decide +kernel
theorem dX11_isOld_49 : decode cX11_isOld 49 = .ok (.invokevirtual 201, 3) := by decide +kernel
theorem dX11_isOld_52 : decode cX11_isOld 52 = .ok (.iconst (-1), 1) := by decide +kernel
theorem dX11_isOld_53 : decode cX11_isOld 53 = .ok (.if_icmp .eq 7, 3) := by decide +kernel
theorem dX11_isOld_56 : decode cX11_isOld 56 = .ok (.iconst 1, 1) := by decide +kernel
theorem dX11_isOld_57 : decode cX11_isOld 57 = .ok (.goto 4, 3) := by decide +kernel
theorem dX11_isOld_60 : decode cX11_isOld 60 = .ok (.iconst 0, 1) := by decide +kernel
theorem dX11_isOld_61 : decode cX11_isOld 61 = .ok (.ireturn, 1) := by decide +kernel
theorem dX11_newOne_0 : decode cX11_newOne 0 = .ok (.aload_n 0, 1) := by decide +kernel
theorem dX11_newOne_1 : decode cX11_newOne 1 = .ok (.iload_n 1, 1) := by decide +kernel
theorem dX11_newOne_2 : decode cX11_newOne 2 = .ok (.iload_n 2, 1) := by decide +kernel
theorem dX11_newOne_3 : decode cX11_newOne 3 = .ok (.invokevirtual 204, 3) := by decide +kernel
theorem dX11_newOne_6 : decode cX11_newOne 6 = .ok (.ifCond .eq 10, 3) := by decide +kernel
theorem dX11_newOne_9 : decode cX11_newOne 9 = .ok (.aload_n 0, 1) := by decide +kernel
theorem dX11_newOne_10 : decode cX11_newOne 10 = .ok (.bipush 6, 2) := by decide +kernel
theorem dX11_newOne_12 : decode cX11_newOne 12 = .ok (.invokevirtual 181, 3) := by decide +kernel
theorem dX11_newOne_15 : decode cX11_newOne 15 = .ok (.ireturn, 1) := by decide +kernel
theorem dX11_newOne_16 : decode cX11_newOne 16 = .ok (.aload_n 0, 1) := by decide +kernel
theorem dX11_newOne_17 : decode cX11_newOne 17 = .ok (.invokevirtual 175, 3) := by decide +kernel
theorem dX11_newOne_20 : decode cX11_newOne 20 = .ok (.aload_n 0, 1) := by decide +kernel
theorem dX11_newOne_21 : decode cX11_newOne 21 = .ok (.ldc 192, 2) := by decide +kernel
theorem dX11_newOne_23 : decode cX11_newOne 23 = .ok (.invokevirtual 208, 3) := by decide +kernel
theorem dX11_newOne_26 : decode cX11_newOne 26 = .ok (.ifCond .ne 9, 3) := by decide +kernel
theorem dX11_newOne_29 : decode cX11_newOne 29 = .ok (.aload_n 0, 1) := by decide +kernel
theorem dX11_newOne_30 : decode cX11_newOne 30 = .ok (.iconst 2, 1) := by decide +kernel
theorem dX11_newOne_31 : decode cX11_newOne 31 = .ok (.invokevirtual 181, 3) := by decide +kernel
theorem dX11_newOne_34 : decode cX11_newOne 34 = .ok (.ireturn, 1) := by decide +kernel
theorem dX11_newOne_35 : decode cX11_newOne 35 = .ok (.aload_n 0, 1) := by decide +kernel
theorem dX11_newOne_36 : decode cX11_newOne 36 = .ok (.invokevirtual 212, 3) := by decide +kernel
theorem dX11_newOne_39 : decode cX11_newOne 39 = .ok (.ifCond .eq 9, 3) := by decide +kernel
theorem dX11_newOne_42 : decode cX11_newOne 42 = .ok (.aload_n 0, 1) := by decide +kernel
theorem dX11_newOne_43 : decode cX11_newOne 43 = .ok (.iconst 3, 1) := by decide +kernel
theorem dX11_newOne_44 : decode cX11_newOne 44 = .ok (.invokevirtual 181, 3) := by decide +kernel
theorem dX11_newOne_47 : decode cX11_newOne 47 = .ok (.ireturn, 1) := by decide +kernel
theorem dX11_newOne_48 : decode cX11_newOne 48 = .ok (.aload_n 0, 1) := by decide +kernel
theorem dX11_newOne_49 : decode cX11_newOne 49 = .ok (.getfield 13, 3) := by decide +kernel
theorem dX11_newOne_52 : decode cX11_newOne 52 = .ok (.bipush 76, 2) := by decide +kernel
theorem dX11_newOne_54 : decode cX11_newOne 54 = .ok (.iload_n 3, 1) := by decide +kernel
theorem dX11_newOne_55 : decode cX11_newOne 55 = .ok (.iadd, 1) := by decide +kernel
theorem dX11_newOne_56 : decode cX11_newOne 56 = .ok (.aload_n 0, 1) := by decide +kernel
theorem dX11_newOne_57 : decode cX11_newOne 57 = .ok (.getfield 7, 3) := by decide +kernel
theorem dX11_newOne_60 : decode cX11_newOne 60 = .ok (.sipush 1712, 3) := by decide +kernel
theorem dX11_newOne_63 : decode cX11_newOne 63 = .ok (.iload_n 1, 1) := by decide +kernel
theorem dX11_newOne_64 : decode cX11_newOne 64 = .ok (.iadd, 1) := by decide +kernel
theorem dX11_newOne_65 : decode cX11_newOne 65 = .ok (.iaload, 1) := by decide +kernel
theorem dX11_newOne_66 : decode cX11_newOne 66 = .ok (.iadd, 1) := by decide +kernel
theorem dX11_newOne_67 : decode cX11_newOne 67 = .ok (.aload_n 0, 1) := by decide +kernel
theorem dX11_newOne_68 : decode cX11_newOne 68 = .ok (.invokevirtual 188, 3) := by decide +kernel
theorem dX11_newOne_71 : decode cX11_newOne 71 = .ok (.lastore, 1) := by decide +kernel
theorem dX11_newOne_72 : decode cX11_newOne 72 = .ok (.aload_n 0, 1) := by decide +kernel
theorem dX11_newOne_73 : decode cX11_newOne 73 = .ok (.invokevirtual 175, 3) := by decide +kernel
theorem dX11_newOne_76 : decode cX11_newOne 76 = .ok (.iconst 1, 1) := by decide +kernel
theorem dX11_newOne_77 : decode cX11_newOne 77 = .ok (.ireturn, 1) := by decide +kernel
theorem dX11_oldOne_0 : decode cX11_oldOne 0 = .ok (.aload_n 0, 1) := by decide +kernel
theorem dX11_oldOne_1 : decode cX11_oldOne 1 = .ok (.ldc 192, 2) := by decide +kernel
theorem dX11_oldOne_3 : decode cX11_oldOne 3 = .ok (.invokevirtual 208, 3) := by decide +kernel
theorem dX11_oldOne_6 : decode cX11_oldOne 6 = .ok (.ifCond .ne 9, 3) := by decide +kernel
theorem dX11_oldOne_9 : decode cX11_oldOne 9 = .ok (.aload_n 0, 1) := by decide +kernel
theorem dX11_oldOne_10 : decode cX11_oldOne 10 = .ok (.iconst 2, 1) := by decide +kernel
theorem dX11_oldOne_11 : decode cX11_oldOne 11 = .ok (.invokevirtual 181, 3) := by decide +kernel
theorem dX11_oldOne_14 : decode cX11_oldOne 14 = .ok (.ireturn, 1) := by decide +kernel
theorem dX11_oldOne_15 : decode cX11_oldOne 15 = .ok (.aload_n 0, 1) := by decide +kernel
theorem dX11_oldOne_16 : decode cX11_oldOne 16 = .ok (.getfield 7, 3) := by decide +kernel
theorem dX11_oldOne_19 : decode cX11_oldOne 19 = .ok (.iload_n 3, 1) := by decide +kernel
theorem dX11_oldOne_20 : decode cX11_oldOne 20 = .ok (.aload_n 0, 1) := by decide +kernel
theorem dX11_oldOne_21 : decode cX11_oldOne 21 = .ok (.iload_n 1, 1) := by decide +kernel
theorem dX11_oldOne_22 : decode cX11_oldOne 22 = .ok (.iload_n 2, 1) := by decide +kernel
theorem dX11_oldOne_23 : decode cX11_oldOne 23 = .ok (.invokevirtual 201, 3) := by decide +kernel
theorem dX11_oldOne_26 : decode cX11_oldOne 26 = .ok (.iastore, 1) := by decide +kernel
theorem dX11_oldOne_27 : decode cX11_oldOne 27 = .ok (.aload_n 0, 1) := by decide +kernel
theorem dX11_oldOne_28 : decode cX11_oldOne 28 = .ok (.getfield 7, 3) := by decide +kernel
theorem dX11_oldOne_31 : decode cX11_oldOne 31 = .ok (.iload_n 3, 1) := by decide +kernel
theorem dX11_oldOne_32 : decode cX11_oldOne 32 = .ok (.iaload, 1) := by decide +kernel
theorem dX11_oldOne_33 : decode cX11_oldOne 33 = .ok (.iconst (-1), 1) := by decide +kernel
theorem dX11_oldOne_34 : decode cX11_oldOne 34 = .ok (.if_icmp .ne 9, 3) := by decide +kernel
theorem dX11_oldOne_37 : decode cX11_oldOne 37 = .ok (.aload_n 0, 1) := by decide +kernel
theorem dX11_oldOne_38 : decode cX11_oldOne 38 = .ok (.iconst 3, 1) := by decide +kernel
theorem dX11_oldOne_39 : decode cX11_oldOne 39 = .ok (.invokevirtual 181, 3) := by decide +kernel
theorem dX11_oldOne_42 : decode cX11_oldOne 42 = .ok (.ireturn, 1) := by decide +kernel
theorem dX11_oldOne_43 : decode cX11_oldOne 43 = .ok (.aload_n 0, 1) := by decide +kernel
theorem dX11_oldOne_44 : decode cX11_oldOne 44 = .ok (.invokevirtual 175, 3) := by decide +kernel
theorem dX11_oldOne_47 : decode cX11_oldOne 47 = .ok (.iconst 1, 1) := by decide +kernel
theorem dX11_oldOne_48 : decode cX11_oldOne 48 = .ok (.ireturn, 1) := by decide +kernel
theorem dX11_newBedTo_0 : decode cX11_newBedTo 0 = .ok (.aload_n 0, 1) := by decide +kernel
theorem dX11_newBedTo_1 : decode cX11_newBedTo 1 = .ok (.iload_n 1, 1) := by decide +kernel
theorem dX11_newBedTo_2 : decode cX11_newBedTo 2 = .ok (.iconst 0, 1) := by decide +kernel
theorem dX11_newBedTo_3 : decode cX11_newBedTo 3 = .ok (.aload_n 0, 1) := by decide +kernel
theorem dX11_newBedTo_4 : decode cX11_newBedTo 4 = .ok (.getfield 7, 3) := by decide +kernel
theorem dX11_newBedTo_7 : decode cX11_newBedTo 7 = .ok (.sipush 1712, 3) := by decide +kernel
theorem dX11_newBedTo_10 : decode cX11_newBedTo 10 = .ok (.iaload, 1) := by decide +kernel
theorem dX11_newBedTo_11 : decode cX11_newBedTo 11 = .ok (.iconst 1, 1) := by decide +kernel
theorem dX11_newBedTo_12 : decode cX11_newBedTo 12 = .ok (.isub, 1) := by decide +kernel
theorem dX11_newBedTo_13 : decode cX11_newBedTo 13 = .ok (.invokevirtual 197, 3) := by decide +kernel
theorem dX11_newBedTo_16 : decode cX11_newBedTo 16 = .ok (.ireturn, 1) := by decide +kernel
theorem dX11_aBed_0 : decode cX11_aBed 0 = .ok (.aload_n 0, 1) := by decide +kernel
theorem dX11_aBed_1 : decode cX11_aBed 1 = .ok (.iconst 0, 1) := by decide +kernel
theorem dX11_aBed_2 : decode cX11_aBed 2 = .ok (.bipush 6, 2) := by decide +kernel
theorem dX11_aBed_4 : decode cX11_aBed 4 = .ok (.invokevirtual 204, 3) := by decide +kernel
theorem dX11_aBed_7 : decode cX11_aBed 7 = .ok (.ifCond .eq 10, 3) := by decide +kernel
theorem dX11_aBed_10 : decode cX11_aBed 10 = .ok (.aload_n 0, 1) := by decide +kernel
theorem dX11_aBed_11 : decode cX11_aBed 11 = .ok (.bipush 6, 2) := by decide +kernel
theorem dX11_aBed_13 : decode cX11_aBed 13 = .ok (.invokevirtual 181, 3) := by decide +kernel
theorem dX11_aBed_16 : decode cX11_aBed 16 = .ok (.ireturn, 1) := by decide +kernel
theorem dX11_aBed_17 : decode cX11_aBed 17 = .ok (.sipush 1712, 3) := by decide +kernel
theorem dX11_aBed_20 : decode cX11_aBed 20 = .ok (.aload_n 0, 1) := by decide +kernel
theorem dX11_aBed_21 : decode cX11_aBed 21 = .ok (.getfield 7, 3) := by decide +kernel
theorem dX11_aBed_24 : decode cX11_aBed 24 = .ok (.sipush 1712, 3) := by decide +kernel
theorem dX11_aBed_27 : decode cX11_aBed 27 = .ok (.iaload, 1) := by decide +kernel
theorem dX11_aBed_28 : decode cX11_aBed 28 = .ok (.invokestatic 216, 3) := by decide +kernel
theorem dX11_aBed_31 : decode cX11_aBed 31 = .ok (.iadd, 1) := by decide +kernel
theorem dX11_aBed_32 : decode cX11_aBed 32 = .ok (.istore_n 1, 1) := by decide +kernel
theorem dX11_aBed_33 : decode cX11_aBed 33 = .ok (.aload_n 0, 1) := by decide +kernel
theorem dX11_aBed_34 : decode cX11_aBed 34 = .ok (.invokevirtual 175, 3) := by decide +kernel
theorem dX11_aBed_37 : decode cX11_aBed 37 = .ok (.aload_n 0, 1) := by decide +kernel
theorem dX11_aBed_38 : decode cX11_aBed 38 = .ok (.iconst 5, 1) := by decide +kernel
theorem dX11_aBed_39 : decode cX11_aBed 39 = .ok (.iload_n 1, 1) := by decide +kernel
theorem dX11_aBed_40 : decode cX11_aBed 40 = .ok (.iconst 0, 1) := by decide +kernel
theorem dX11_aBed_41 : decode cX11_aBed 41 = .ok (.bipush 99, 2) := by decide +kernel
theorem dX11_aBed_43 : decode cX11_aBed 43 = .ok (.iconst 0, 1) := by decide +kernel
theorem dX11_aBed_44 : decode cX11_aBed 44 = .ok (.invokevirtual 219, 3) := by decide +kernel
theorem dX11_aBed_47 : decode cX11_aBed 47 = .ok (.ifCond .eq 19, 3) := by decide +kernel
theorem dX11_aBed_50 : decode cX11_aBed 50 = .ok (.aload_n 0, 1) := by decide +kernel
theorem dX11_aBed_51 : decode cX11_aBed 51 = .ok (.bipush 6, 2) := by decide +kernel
theorem dX11_aBed_53 : decode cX11_aBed 53 = .ok (.iload_n 1, 1) := by decide +kernel
theorem dX11_aBed_54 : decode cX11_aBed 54 = .ok (.iconst 1, 1) := by decide +kernel
theorem dX11_aBed_55 : decode cX11_aBed 55 = .ok (.iadd, 1) := by decide +kernel
theorem dX11_aBed_56 : decode cX11_aBed 56 = .ok (.iconst 0, 1) := by decide +kernel
theorem dX11_aBed_57 : decode cX11_aBed 57 = .ok (.bipush 99, 2) := by decide +kernel
theorem dX11_aBed_59 : decode cX11_aBed 59 = .ok (.iconst 0, 1) := by decide +kernel
theorem dX11_aBed_60 : decode cX11_aBed 60 = .ok (.invokevirtual 219, 3) := by decide +kernel
theorem dX11_aBed_63 : decode cX11_aBed 63 = .ok (.ifCond .ne 5, 3) := by decide +kernel
theorem dX11_aBed_66 : decode cX11_aBed 66 = .ok (.iconst 0, 1) := by decide +kernel
theorem dX11_aBed_67 : decode cX11_aBed 67 = .ok (.ireturn, 1) := by decide +kernel
theorem dX11_aBed_68 : decode cX11_aBed 68 = .ok (.aload_n 0, 1) := by decide +kernel
theorem dX11_aBed_69 : decode cX11_aBed 69 = .ok (.getfield 7, 3) := by decide +kernel
theorem dX11_aBed_72 : decode cX11_aBed 72 = .ok (.sipush 1712, 3) := by decide +kernel
theorem dX11_aBed_75 : decode cX11_aBed 75 = .ok (.dup2, 1) := by decide +kernel
theorem dX11_aBed_76 : decode cX11_aBed 76 = .ok (.iaload, 1) := by decide +kernel
theorem dX11_aBed_77 : decode cX11_aBed 77 = .ok (.iconst 1, 1) := by decide +kernel
theorem dX11_aBed_78 : decode cX11_aBed 78 = .ok (.iadd, 1) := by decide +kernel
theorem dX11_aBed_79 : decode cX11_aBed 79 = .ok (.iastore, 1) := by decide +kernel
theorem dX11_aBed_80 : decode cX11_aBed 80 = .ok (.iconst 1, 1) := by decide +kernel
theorem dX11_aBed_81 : decode cX11_aBed 81 = .ok (.ireturn, 1) := by decide +kernel
theorem dX11_aCase_0 : decode cX11_aCase 0 = .ok (.aload_n 0, 1) := by decide +kernel
theorem dX11_aCase_1 : decode cX11_aCase 1 = .ok (.iconst 1, 1) := by decide +kernel
theorem dX11_aCase_2 : decode cX11_aCase 2 = .ok (.bipush 8, 2) := by decide +kernel
theorem dX11_aCase_4 : decode cX11_aCase 4 = .ok (.iconst 0, 1) := by decide +kernel
theorem dX11_aCase_5 : decode cX11_aCase 5 = .ok (.invokevirtual 223, 3) := by decide +kernel
theorem dX11_aCase_8 : decode cX11_aCase 8 = .ok (.ifCond .eq 36, 3) := by decide +kernel
theorem dX11_aCase_11 : decode cX11_aCase 11 = .ok (.aload_n 0, 1) := by decide +kernel
theorem dX11_aCase_12 : decode cX11_aCase 12 = .ok (.ldc 192, 2) := by decide +kernel
theorem dX11_aCase_14 : decode cX11_aCase 14 = .ok (.bipush 7, 2) := by decide +kernel
theorem dX11_aCase_16 : decode cX11_aCase 16 = .ok (.invokevirtual 226, 3) := by decide +kernel
theorem dX11_aCase_19 : decode cX11_aCase 19 = .ok (.ifCond .eq 25, 3) := by decide +kernel
theorem dX11_aCase_22 : decode cX11_aCase 22 = .ok (.aload_n 0, 1) := by decide +kernel
theorem dX11_aCase_23 : decode cX11_aCase 23 = .ok (.sipush 1734, 3) := by decide +kernel
theorem dX11_aCase_26 : decode cX11_aCase 26 = .ok (.aload_n 0, 1) := by decide +kernel
theorem dX11_aCase_27 : decode cX11_aCase 27 = .ok (.getfield 7, 3) := by decide +kernel
theorem dX11_aCase_30 : decode cX11_aCase 30 = .ok (.sipush 1713, 3) := by decide +kernel
theorem dX11_aCase_33 : decode cX11_aCase 33 = .ok (.iaload, 1) := by decide +kernel
theorem dX11_aCase_34 : decode cX11_aCase 34 = .ok (.iadd, 1) := by decide +kernel
theorem dX11_aCase_35 : decode cX11_aCase 35 = .ok (.iconst 1, 1) := by decide +kernel
theorem dX11_aCase_36 : decode cX11_aCase 36 = .ok (.bipush 20, 2) := by decide +kernel
theorem dX11_aCase_38 : decode cX11_aCase 38 = .ok (.invokevirtual 197, 3) := by decide +kernel
theorem dX11_aCase_41 : decode cX11_aCase 41 = .ok (.ifCond .ne 5, 3) := by decide +kernel
theorem dX11_aCase_44 : decode cX11_aCase 44 = .ok (.iconst 0, 1) := by decide +kernel
theorem dX11_aCase_45 : decode cX11_aCase 45 = .ok (.ireturn, 1) := by decide +kernel
theorem dX11_aCase_46 : decode cX11_aCase 46 = .ok (.aload_n 0, 1) := by decide +kernel
theorem dX11_aCase_47 : decode cX11_aCase 47 = .ok (.getfield 7, 3) := by decide +kernel
theorem dX11_aCase_50 : decode cX11_aCase 50 = .ok (.sipush 1713, 3) := by decide +kernel
theorem dX11_aCase_53 : decode cX11_aCase 53 = .ok (.dup2, 1) := by decide +kernel
theorem dX11_aCase_54 : decode cX11_aCase 54 = .ok (.iaload, 1) := by decide +kernel
theorem dX11_aCase_55 : decode cX11_aCase 55 = .ok (.iconst 1, 1) := by decide +kernel
theorem dX11_aCase_56 : decode cX11_aCase 56 = .ok (.iadd, 1) := by decide +kernel
theorem dX11_aCase_57 : decode cX11_aCase 57 = .ok (.iastore, 1) := by decide +kernel
theorem dX11_aCase_58 : decode cX11_aCase 58 = .ok (.iconst 1, 1) := by decide +kernel
theorem dX11_aCase_59 : decode cX11_aCase 59 = .ok (.ireturn, 1) := by decide +kernel
theorem dX11_aClaim_0 : decode cX11_aClaim 0 = .ok (.sipush 1712, 3) := by decide +kernel
theorem dX11_aClaim_3 : decode cX11_aClaim 3 = .ok (.aload_n 0, 1) := by decide +kernel
theorem dX11_aClaim_4 : decode cX11_aClaim 4 = .ok (.getfield 7, 3) := by decide +kernel
theorem dX11_aClaim_7 : decode cX11_aClaim 7 = .ok (.sipush 1714, 3) := by decide +kernel
theorem dX11_aClaim_10 : decode cX11_aClaim 10 = .ok (.iaload, 1) := by decide +kernel
theorem dX11_aClaim_11 : decode cX11_aClaim 11 = .ok (.invokestatic 230, 3) := by decide +kernel
theorem dX11_aClaim_14 : decode cX11_aClaim 14 = .ok (.iadd, 1) := by decide +kernel
theorem dX11_aClaim_15 : decode cX11_aClaim 15 = .ok (.istore_n 1, 1) := by decide +kernel
theorem dX11_aClaim_16 : decode cX11_aClaim 16 = .ok (.sipush 2132, 3) := by decide +kernel
theorem dX11_aClaim_19 : decode cX11_aClaim 19 = .ok (.istore_n 2, 1) := by decide +kernel
theorem dX11_aClaim_20 : decode cX11_aClaim 20 = .ok (.aload_n 0, 1) := by decide +kernel
theorem dX11_aClaim_21 : decode cX11_aClaim 21 = .ok (.iconst 2, 1) := by decide +kernel
theorem dX11_aClaim_22 : decode cX11_aClaim 22 = .ok (.bipush 7, 2) := by decide +kernel
theorem dX11_aClaim_24 : decode cX11_aClaim 24 = .ok (.bipush 8, 2) := by decide +kernel
theorem dX11_aClaim_26 : decode cX11_aClaim 26 = .ok (.invokevirtual 223, 3) := by decide +kernel
theorem dX11_aClaim_29 : decode cX11_aClaim 29 = .ok (.ifCond .eq 38, 3) := by decide +kernel
theorem dX11_aClaim_32 : decode cX11_aClaim 32 = .ok (.aload_n 0, 1) := by decide +kernel
theorem dX11_aClaim_33 : decode cX11_aClaim 33 = .ok (.ldc 192, 2) := by decide +kernel
theorem dX11_aClaim_35 : decode cX11_aClaim 35 = .ok (.bipush 8, 2) := by decide +kernel
theorem dX11_aClaim_37 : decode cX11_aClaim 37 = .ok (.invokevirtual 226, 3) := by decide +kernel
theorem dX11_aClaim_40 : decode cX11_aClaim 40 = .ok (.ifCond .eq 27, 3) := by decide +kernel
theorem dX11_aClaim_43 : decode cX11_aClaim 43 = .ok (.aload_n 0, 1) := by decide +kernel
theorem dX11_aClaim_44 : decode cX11_aClaim 44 = .ok (.iload_n 1, 1) := by decide +kernel
theorem dX11_aClaim_45 : decode cX11_aClaim 45 = .ok (.invokevirtual 233, 3) := by decide +kernel
theorem dX11_aClaim_48 : decode cX11_aClaim 48 = .ok (.ifCond .eq 19, 3) := by decide +kernel
theorem dX11_aClaim_51 : decode cX11_aClaim 51 = .ok (.aload_n 0, 1) := by decide +kernel
theorem dX11_aClaim_52 : decode cX11_aClaim 52 = .ok (.bipush 9, 2) := by decide +kernel
theorem dX11_aClaim_54 : decode cX11_aClaim 54 = .ok (.iload_n 1, 1) := by decide +kernel
theorem dX11_aClaim_55 : decode cX11_aClaim 55 = .ok (.iconst 1, 1) := by decide +kernel
theorem dX11_aClaim_56 : decode cX11_aClaim 56 = .ok (.iadd, 1) := by decide +kernel
theorem dX11_aClaim_57 : decode cX11_aClaim 57 = .ok (.iconst 1, 1) := by decide +kernel
theorem dX11_aClaim_58 : decode cX11_aClaim 58 = .ok (.bipush 9, 2) := by decide +kernel
theorem dX11_aClaim_60 : decode cX11_aClaim 60 = .ok (.iconst 1, 1) := by decide +kernel
theorem dX11_aClaim_61 : decode cX11_aClaim 61 = .ok (.invokevirtual 219, 3) := by decide +kernel
theorem dX11_aClaim_64 : decode cX11_aClaim 64 = .ok (.ifCond .ne 5, 3) := by decide +kernel
theorem dX11_aClaim_67 : decode cX11_aClaim 67 = .ok (.iconst 0, 1) := by decide +kernel
theorem dX11_aClaim_68 : decode cX11_aClaim 68 = .ok (.ireturn, 1) := by decide +kernel
theorem dX11_aClaim_69 : decode cX11_aClaim 69 = .ok (.aload_n 0, 1) := by decide +kernel
theorem dX11_aClaim_70 : decode cX11_aClaim 70 = .ok (.ldc 192, 2) := by decide +kernel
theorem dX11_aClaim_72 : decode cX11_aClaim 72 = .ok (.bipush 10, 2) := by decide +kernel
theorem dX11_aClaim_74 : decode cX11_aClaim 74 = .ok (.invokevirtual 226, 3) := by decide +kernel
theorem dX11_aClaim_77 : decode cX11_aClaim 77 = .ok (.ifCond .ne 5, 3) := by decide +kernel
theorem dX11_aClaim_80 : decode cX11_aClaim 80 = .ok (.iconst 0, 1) := by decide +kernel
theorem dX11_aClaim_81 : decode cX11_aClaim 81 = .ok (.ireturn, 1) := by decide +kernel
theorem dX11_aClaim_82 : decode cX11_aClaim 82 = .ok (.aload_n 0, 1) := by decide +kernel
theorem dX11_aClaim_83 : decode cX11_aClaim 83 = .ok (.getfield 7, 3) := by decide +kernel
theorem dX11_aClaim_86 : decode cX11_aClaim 86 = .ok (.iload_n 1, 1) := by decide +kernel
theorem dX11_aClaim_87 : decode cX11_aClaim 87 = .ok (.iconst 2, 1) := by decide +kernel
theorem dX11_aClaim_88 : decode cX11_aClaim 88 = .ok (.iadd, 1) := by decide +kernel
theorem dX11_aClaim_89 : decode cX11_aClaim 89 = .ok (.iconst 0, 1) := by decide +kernel
theorem dX11_aClaim_90 : decode cX11_aClaim 90 = .ok (.iastore, 1) := by decide +kernel
theorem dX11_aClaim_91 : decode cX11_aClaim 91 = .ok (.aload_n 0, 1) := by decide +kernel
theorem dX11_aClaim_92 : decode cX11_aClaim 92 = .ok (.ldc 192, 2) := by decide +kernel
theorem dX11_aClaim_94 : decode cX11_aClaim 94 = .ok (.invokevirtual 208, 3) := by decide +kernel
theorem dX11_aClaim_97 : decode cX11_aClaim 97 = .ok (.ifCond .eq 82, 3) := by decide +kernel
theorem dX11_aClaim_100 : decode cX11_aClaim 100 = .ok (.aload_n 0, 1) := by decide +kernel
theorem dX11_aClaim_101 : decode cX11_aClaim 101 = .ok (.bipush 76, 2) := by decide +kernel
theorem dX11_aClaim_103 : decode cX11_aClaim 103 = .ok (.aload_n 0, 1) := by decide +kernel
theorem dX11_aClaim_104 : decode cX11_aClaim 104 = .ok (.getfield 7, 3) := by decide +kernel
theorem dX11_aClaim_107 : decode cX11_aClaim 107 = .ok (.sipush 1713, 3) := by decide +kernel
theorem dX11_aClaim_110 : decode cX11_aClaim 110 = .ok (.iaload, 1) := by decide +kernel
theorem dX11_aClaim_111 : decode cX11_aClaim 111 = .ok (.invokevirtual 201, 3) := by decide +kernel
theorem dX11_aClaim_114 : decode cX11_aClaim 114 = .ok (.istore_n 3, 1) := by decide +kernel
theorem dX11_aClaim_115 : decode cX11_aClaim 115 = .ok (.iload_n 3, 1) := by decide +kernel
theorem dX11_aClaim_116 : decode cX11_aClaim 116 = .ok (.iconst (-1), 1) := by decide +kernel
theorem dX11_aClaim_117 : decode cX11_aClaim 117 = .ok (.if_icmp .eq 25, 3) := by decide +kernel
theorem dX11_aClaim_120 : decode cX11_aClaim 120 = .ok (.aload_n 0, 1) := by decide +kernel
theorem dX11_aClaim_121 : decode cX11_aClaim 121 = .ok (.aload_n 0, 1) := by decide +kernel
theorem dX11_aClaim_122 : decode cX11_aClaim 122 = .ok (.getfield 7, 3) := by decide +kernel
theorem dX11_aClaim_125 : decode cX11_aClaim 125 = .ok (.iload_n 1, 1) := by decide +kernel
theorem dX11_aClaim_126 : decode cX11_aClaim 126 = .ok (.iconst 2, 1) := by decide +kernel
theorem dX11_aClaim_127 : decode cX11_aClaim 127 = .ok (.iadd, 1) := by decide +kernel
theorem dX11_aClaim_128 : decode cX11_aClaim 128 = .ok (.iaload, 1) := by decide +kernel
theorem dX11_aClaim_129 : decode cX11_aClaim 129 = .ok (.iload_n 3, 1) := by decide +kernel
theorem dX11_aClaim_130 : decode cX11_aClaim 130 = .ok (.invokevirtual 236, 3) := by decide +kernel
theorem dX11_aClaim_133 : decode cX11_aClaim 133 = .ok (.ifCond .eq 9, 3) := by decide +kernel
theorem dX11_aClaim_136 : decode cX11_aClaim 136 = .ok (.aload_n 0, 1) := by decide +kernel
theorem dX11_aClaim_137 : decode cX11_aClaim 137 = .ok (.iconst 5, 1) := by decide +kernel
theorem dX11_aClaim_138 : decode cX11_aClaim 138 = .ok (.invokevirtual 181, 3) := by decide +kernel
theorem dX11_aClaim_141 : decode cX11_aClaim 141 = .ok (.ireturn, 1) := by decide +kernel
theorem dX11_aClaim_142 : decode cX11_aClaim 142 = .ok (.aload_n 0, 1) := by decide +kernel
theorem dX11_aClaim_143 : decode cX11_aClaim 143 = .ok (.bipush 76, 2) := by decide +kernel
theorem dX11_aClaim_145 : decode cX11_aClaim 145 = .ok (.aload_n 0, 1) := by decide +kernel
theorem dX11_aClaim_146 : decode cX11_aClaim 146 = .ok (.getfield 7, 3) := by decide +kernel
theorem dX11_aClaim_149 : decode cX11_aClaim 149 = .ok (.sipush 1713, 3) := by decide +kernel
theorem dX11_aClaim_152 : decode cX11_aClaim 152 = .ok (.iaload, 1) := by decide +kernel
theorem dX11_aClaim_153 : decode cX11_aClaim 153 = .ok (.iload_n 2, 1) := by decide +kernel
theorem dX11_aClaim_154 : decode cX11_aClaim 154 = .ok (.invokevirtual 239, 3) := by decide +kernel
theorem dX11_aClaim_157 : decode cX11_aClaim 157 = .ok (.ifCond .ne 5, 3) := by decide +kernel
theorem dX11_aClaim_160 : decode cX11_aClaim 160 = .ok (.iconst 0, 1) := by decide +kernel
theorem dX11_aClaim_161 : decode cX11_aClaim 161 = .ok (.ireturn, 1) := by decide +kernel
theorem dX11_aClaim_162 : decode cX11_aClaim 162 = .ok (.aload_n 0, 1) := by decide +kernel
theorem dX11_aClaim_163 : decode cX11_aClaim 163 = .ok (.getfield 7, 3) := by decide +kernel
theorem dX11_aClaim_166 : decode cX11_aClaim 166 = .ok (.iload_n 1, 1) := by decide +kernel
theorem dX11_aClaim_167 : decode cX11_aClaim 167 = .ok (.iconst 2, 1) := by decide +kernel
theorem dX11_aClaim_168 : decode cX11_aClaim 168 = .ok (.iadd, 1) := by decide +kernel
theorem dX11_aClaim_169 : decode cX11_aClaim 169 = .ok (.dup2, 1) := by decide +kernel
theorem dX11_aClaim_170 : decode cX11_aClaim 170 = .ok (.iaload, 1) := by decide +kernel
theorem dX11_aClaim_171 : decode cX11_aClaim 171 = .ok (.iconst 1, 1) := by decide +kernel
theorem dX11_aClaim_172 : decode cX11_aClaim 172 = .ok (.iload_n 3, 1) := by decide +kernel
theorem dX11_aClaim_173 : decode cX11_aClaim 173 = .ok (.ishl, 1) := by decide +kernel
theorem dX11_aClaim_174 : decode cX11_aClaim 174 = .ok (.ior, 1) := by decide +kernel
theorem dX11_aClaim_175 : decode cX11_aClaim 175 = .ok (.iastore, 1) := by decide +kernel
theorem dX11_aClaim_176 : decode cX11_aClaim 176 = .ok (.goto (-85), 3) := by decide +kernel
theorem dX11_aClaim_179 : decode cX11_aClaim 179 = .ok (.aload_n 0, 1) := by decide +kernel
theorem dX11_aClaim_180 : decode cX11_aClaim 180 = .ok (.getfield 7, 3) := by decide +kernel
theorem dX11_aClaim_183 : decode cX11_aClaim 183 = .ok (.sipush 1714, 3) := by decide +kernel
theorem dX11_aClaim_186 : decode cX11_aClaim 186 = .ok (.dup2, 1) := by decide +kernel
theorem dX11_aClaim_187 : decode cX11_aClaim 187 = .ok (.iaload, 1) := by decide +kernel
theorem dX11_aClaim_188 : decode cX11_aClaim 188 = .ok (.iconst 1, 1) := by decide +kernel
theorem dX11_aClaim_189 : decode cX11_aClaim 189 = .ok (.iadd, 1) := by decide +kernel
theorem dX11_aClaim_190 : decode cX11_aClaim 190 = .ok (.iastore, 1) := by decide +kernel
theorem dX11_aClaim_191 : decode cX11_aClaim 191 = .ok (.iconst 1, 1) := by decide +kernel
theorem dX11_aClaim_192 : decode cX11_aClaim 192 = .ok (.ireturn, 1) := by decide +kernel
theorem dX11_aScholar_0 : decode cX11_aScholar 0 = .ok (.sipush 1712, 3) := by decide +kernel
theorem dX11_aScholar_3 : decode cX11_aScholar 3 = .ok (.aload_n 0, 1) := by decide +kernel
theorem dX11_aScholar_4 : decode cX11_aScholar 4 = .ok (.getfield 7, 3) := by decide +kernel
theorem dX11_aScholar_7 : decode cX11_aScholar 7 = .ok (.sipush 1715, 3) := by decide +kernel
theorem dX11_aScholar_10 : decode cX11_aScholar 10 = .ok (.iaload, 1) := by decide +kernel
theorem dX11_aScholar_11 : decode cX11_aScholar 11 = .ok (.invokestatic 242, 3) := by decide +kernel
theorem dX11_aScholar_14 : decode cX11_aScholar 14 = .ok (.iadd, 1) := by decide +kernel
theorem dX11_aScholar_15 : decode cX11_aScholar 15 = .ok (.istore_n 1, 1) := by decide +kernel
theorem dX11_aScholar_16 : decode cX11_aScholar 16 = .ok (.aload_n 0, 1) := by decide +kernel
theorem dX11_aScholar_17 : decode cX11_aScholar 17 = .ok (.iconst 3, 1) := by decide +kernel
theorem dX11_aScholar_18 : decode cX11_aScholar 18 = .ok (.iconst 4, 1) := by decide +kernel
theorem dX11_aScholar_19 : decode cX11_aScholar 19 = .ok (.bipush 15, 2) := by decide +kernel
theorem dX11_aScholar_21 : decode cX11_aScholar 21 = .ok (.invokevirtual 223, 3) := by decide +kernel
theorem dX11_aScholar_24 : decode cX11_aScholar 24 = .ok (.ifCond .eq 39, 3) := by decide +kernel
theorem dX11_aScholar_27 : decode cX11_aScholar 27 = .ok (.aload_n 0, 1) := by decide +kernel
theorem dX11_aScholar_28 : decode cX11_aScholar 28 = .ok (.ldc 192, 2) := by decide +kernel
theorem dX11_aScholar_30 : decode cX11_aScholar 30 = .ok (.bipush 8, 2) := by decide +kernel
theorem dX11_aScholar_32 : decode cX11_aScholar 32 = .ok (.invokevirtual 226, 3) := by decide +kernel
theorem dX11_aScholar_35 : decode cX11_aScholar 35 = .ok (.ifCond .eq 28, 3) := by decide +kernel
theorem dX11_aScholar_38 : decode cX11_aScholar 38 = .ok (.aload_n 0, 1) := by decide +kernel
theorem dX11_aScholar_39 : decode cX11_aScholar 39 = .ok (.iload_n 1, 1) := by decide +kernel
theorem dX11_aScholar_40 : decode cX11_aScholar 40 = .ok (.invokevirtual 233, 3) := by decide +kernel
theorem dX11_aScholar_43 : decode cX11_aScholar 43 = .ok (.ifCond .eq 20, 3) := by decide +kernel
theorem dX11_aScholar_46 : decode cX11_aScholar 46 = .ok (.aload_n 0, 1) := by decide +kernel
theorem dX11_aScholar_47 : decode cX11_aScholar 47 = .ok (.bipush 11, 2) := by decide +kernel
theorem dX11_aScholar_49 : decode cX11_aScholar 49 = .ok (.iload_n 1, 1) := by decide +kernel
theorem dX11_aScholar_50 : decode cX11_aScholar 50 = .ok (.iconst 1, 1) := by decide +kernel
theorem dX11_aScholar_51 : decode cX11_aScholar 51 = .ok (.iadd, 1) := by decide +kernel
theorem dX11_aScholar_52 : decode cX11_aScholar 52 = .ok (.iconst 0, 1) := by decide +kernel
theorem dX11_aScholar_53 : decode cX11_aScholar 53 = .ok (.sipush 999, 3) := by decide +kernel
theorem dX11_aScholar_56 : decode cX11_aScholar 56 = .ok (.iconst 0, 1) := by decide +kernel
theorem dX11_aScholar_57 : decode cX11_aScholar 57 = .ok (.invokevirtual 219, 3) := by decide +kernel
theorem dX11_aScholar_60 : decode cX11_aScholar 60 = .ok (.ifCond .ne 5, 3) := by decide +kernel
theorem dX11_aScholar_63 : decode cX11_aScholar 63 = .ok (.iconst 0, 1) := by decide +kernel
theorem dX11_aScholar_64 : decode cX11_aScholar 64 = .ok (.ireturn, 1) := by decide +kernel
theorem dX11_aScholar_65 : decode cX11_aScholar 65 = .ok (.aload_n 0, 1) := by decide +kernel
theorem dX11_aScholar_66 : decode cX11_aScholar 66 = .ok (.getfield 7, 3) := by decide +kernel
theorem dX11_aScholar_69 : decode cX11_aScholar 69 = .ok (.sipush 1715, 3) := by decide +kernel
theorem dX11_aScholar_72 : decode cX11_aScholar 72 = .ok (.dup2, 1) := by decide +kernel
theorem dX11_aScholar_73 : decode cX11_aScholar 73 = .ok (.iaload, 1) := by decide +kernel
theorem dX11_aScholar_74 : decode cX11_aScholar 74 = .ok (.iconst 1, 1) := by decide +kernel
theorem dX11_aScholar_75 : decode cX11_aScholar 75 = .ok (.iadd, 1) := by decide +kernel
theorem dX11_aScholar_76 : decode cX11_aScholar 76 = .ok (.iastore, 1) := by decide +kernel
theorem dX11_aScholar_77 : decode cX11_aScholar 77 = .ok (.iconst 1, 1) := by decide +kernel
theorem dX11_aScholar_78 : decode cX11_aScholar 78 = .ok (.ireturn, 1) := by decide +kernel
theorem dX11_courtPart_0 : decode cX11_courtPart 0 = .ok (.aload_n 0, 1) := by decide +kernel
theorem dX11_courtPart_1 : decode cX11_courtPart 1 = .ok (.ldc 192, 2) := by decide +kernel
theorem dX11_courtPart_3 : decode cX11_courtPart 3 = .ok (.invokevirtual 184, 3) := by decide +kernel
theorem dX11_courtPart_6 : decode cX11_courtPart 6 = .ok (.istore_n 1, 1) := by decide +kernel
theorem dX11_courtPart_7 : decode cX11_courtPart 7 = .ok (.iload_n 1, 1) := by decide +kernel
theorem dX11_courtPart_8 : decode cX11_courtPart 8 = .ok (.ifCond .lt 8, 3) := by decide +kernel
theorem dX11_courtPart_11 : decode cX11_courtPart 11 = .ok (.iload_n 1, 1) := by decide +kernel
theorem dX11_courtPart_12 : decode cX11_courtPart 12 = .ok (.iconst 4, 1) := by decide +kernel
theorem dX11_courtPart_13 : decode cX11_courtPart 13 = .ok (.if_icmp .le 9, 3) := by decide +kernel
theorem dX11_courtPart_16 : decode cX11_courtPart 16 = .ok (.aload_n 0, 1) := by decide +kernel
theorem dX11_courtPart_17 : decode cX11_courtPart 17 = .ok (.iconst 2, 1) := by decide +kernel
theorem dX11_courtPart_18 : decode cX11_courtPart 18 = .ok (.invokevirtual 181, 3) := by decide +kernel
theorem dX11_courtPart_21 : decode cX11_courtPart 21 = .ok (.ireturn, 1) := by decide +kernel
theorem dX11_courtPart_22 : decode cX11_courtPart 22 = .ok (.iload_n 1, 1) := by decide +kernel
theorem dX11_courtPart_23 : decode cX11_courtPart 23 = .ok (.ifCond .ne 17, 3) := by decide +kernel
theorem dX11_courtPart_26 : decode cX11_courtPart 26 = .ok (.aload_n 0, 1) := by decide +kernel
theorem dX11_courtPart_27 : decode cX11_courtPart 27 = .ok (.getfield 245, 3) := by decide +kernel
theorem dX11_courtPart_30 : decode cX11_courtPart 30 = .ok (.iconst 1, 1) := by decide +kernel
theorem dX11_courtPart_31 : decode cX11_courtPart 31 = .ok (.if_icmp .ne 9, 3) := by decide +kernel
theorem dX11_courtPart_34 : decode cX11_courtPart 34 = .ok (.aload_n 0, 1) := by decide +kernel
theorem dX11_courtPart_35 : decode cX11_courtPart 35 = .ok (.iconst 5, 1) := by decide +kernel
theorem dX11_courtPart_36 : decode cX11_courtPart 36 = .ok (.invokevirtual 181, 3) := by decide +kernel
theorem dX11_courtPart_39 : decode cX11_courtPart 39 = .ok (.ireturn, 1) := by decide +kernel
theorem dX11_courtPart_40 : decode cX11_courtPart 40 = .ok (.iload_n 1, 1) := by decide +kernel
theorem dX11_courtPart_41 : decode cX11_courtPart 41 = .ok (.ifCond .ne 12, 3) := by decide +kernel
theorem dX11_courtPart_44 : decode cX11_courtPart 44 = .ok (.aload_n 0, 1) := by decide +kernel
theorem dX11_courtPart_45 : decode cX11_courtPart 45 = .ok (.iconst 1, 1) := by decide +kernel
theorem dX11_courtPart_46 : decode cX11_courtPart 46 = .ok (.putfield 245, 3) := by decide +kernel
theorem dX11_courtPart_49 : decode cX11_courtPart 49 = .ok (.aload_n 0, 1) := by decide +kernel
theorem dX11_courtPart_50 : decode cX11_courtPart 50 = .ok (.invokevirtual 175, 3) := by decide +kernel
theorem dX11_courtPart_53 : decode cX11_courtPart 53 = .ok (.iload_n 1, 1) := by decide +kernel
theorem dX11_courtPart_54 : decode cX11_courtPart 54 = .ok (.tableswitch 68 0 3 #[30, 44, 52, 60], 30) := by decide +kernel
theorem dX11_courtPart_84 : decode cX11_courtPart 84 = .ok (.aload_n 0, 1) := by decide +kernel
theorem dX11_courtPart_85 : decode cX11_courtPart 85 = .ok (.sipush 1716, 3) := by decide +kernel
theorem dX11_courtPart_88 : decode cX11_courtPart 88 = .ok (.iconst 0, 1) := by decide +kernel
theorem dX11_courtPart_89 : decode cX11_courtPart 89 = .ok (.bipush 16, 2) := by decide +kernel
theorem dX11_courtPart_91 : decode cX11_courtPart 91 = .ok (.invokevirtual 197, 3) := by decide +kernel
theorem dX11_courtPart_94 : decode cX11_courtPart 94 = .ok (.istore_n 2, 1) := by decide +kernel
theorem dX11_courtPart_95 : decode cX11_courtPart 95 = .ok (.goto 32, 3) := by decide +kernel
theorem dX11_courtPart_98 : decode cX11_courtPart 98 = .ok (.aload_n 0, 1) := by decide +kernel
theorem dX11_courtPart_99 : decode cX11_courtPart 99 = .ok (.invokevirtual 248, 3) := by decide +kernel
theorem dX11_courtPart_102 : decode cX11_courtPart 102 = .ok (.istore_n 2, 1) := by decide +kernel
theorem dX11_courtPart_103 : decode cX11_courtPart 103 = .ok (.goto 24, 3) := by decide +kernel
theorem dX11_courtPart_106 : decode cX11_courtPart 106 = .ok (.aload_n 0, 1) := by decide +kernel
theorem dX11_courtPart_107 : decode cX11_courtPart 107 = .ok (.invokevirtual 251, 3) := by decide +kernel
theorem dX11_courtPart_110 : decode cX11_courtPart 110 = .ok (.istore_n 2, 1) := by decide +kernel
theorem dX11_courtPart_111 : decode cX11_courtPart 111 = .ok (.goto 16, 3) := by decide +kernel
theorem dX11_courtPart_114 : decode cX11_courtPart 114 = .ok (.aload_n 0, 1) := by decide +kernel
theorem dX11_courtPart_115 : decode cX11_courtPart 115 = .ok (.invokevirtual 254, 3) := by decide +kernel
theorem dX11_courtPart_118 : decode cX11_courtPart 118 = .ok (.istore_n 2, 1) := by decide +kernel
theorem dX11_courtPart_119 : decode cX11_courtPart 119 = .ok (.goto 8, 3) := by decide +kernel
theorem dX11_courtPart_122 : decode cX11_courtPart 122 = .ok (.aload_n 0, 1) := by decide +kernel
theorem dX11_courtPart_123 : decode cX11_courtPart 123 = .ok (.invokevirtual 257, 3) := by decide +kernel
theorem dX11_courtPart_126 : decode cX11_courtPart 126 = .ok (.istore_n 2, 1) := by decide +kernel
theorem dX11_courtPart_127 : decode cX11_courtPart 127 = .ok (.iload_n 2, 1) := by decide +kernel
theorem dX11_courtPart_128 : decode cX11_courtPart 128 = .ok (.ifCond .eq 16, 3) := by decide +kernel
theorem dX11_courtPart_131 : decode cX11_courtPart 131 = .ok (.aload_n 0, 1) := by decide +kernel
theorem dX11_courtPart_132 : decode cX11_courtPart 132 = .ok (.bipush 59, 2) := by decide +kernel
theorem dX11_courtPart_134 : decode cX11_courtPart 134 = .ok (.invokevirtual 260, 3) := by decide +kernel
theorem dX11_courtPart_137 : decode cX11_courtPart 137 = .ok (.ifCond .eq 7, 3) := by decide +kernel
theorem dX11_courtPart_140 : decode cX11_courtPart 140 = .ok (.iconst 1, 1) := by decide +kernel
theorem dX11_courtPart_141 : decode cX11_courtPart 141 = .ok (.goto 4, 3) := by decide +kernel
theorem dX11_courtPart_144 : decode cX11_courtPart 144 = .ok (.iconst 0, 1) := by decide +kernel
theorem dX11_courtPart_145 : decode cX11_courtPart 145 = .ok (.ireturn, 1) := by decide +kernel
theorem dX11_court_0 : decode cX11_court 0 = .ok (.aload_n 0, 1) := by decide +kernel
theorem dX11_court_1 : decode cX11_court 1 = .ok (.iload_n 1, 1) := by decide +kernel
theorem dX11_court_2 : decode cX11_court 2 = .ok (.sipush 900, 3) := by decide +kernel
theorem dX11_court_5 : decode cX11_court 5 = .ok (.invokevirtual 263, 3) := by decide +kernel
theorem dX11_court_8 : decode cX11_court 8 = .ok (.ifCond .ne 9, 3) := by decide +kernel
theorem dX11_court_11 : decode cX11_court 11 = .ok (.aload_n 0, 1) := by decide +kernel
theorem dX11_court_12 : decode cX11_court 12 = .ok (.iconst 1, 1) := by decide +kernel
theorem dX11_court_13 : decode cX11_court 13 = .ok (.invokevirtual 99, 3) := by decide +kernel
theorem dX11_court_16 : decode cX11_court 16 = .ok (.ireturn, 1) := by decide +kernel
theorem dX11_court_17 : decode cX11_court 17 = .ok (.aload_n 0, 1) := by decide +kernel
theorem dX11_court_18 : decode cX11_court 18 = .ok (.sipush 1712, 3) := by decide +kernel
theorem dX11_court_21 : decode cX11_court 21 = .ok (.invokevirtual 89, 3) := by decide +kernel
theorem dX11_court_24 : decode cX11_court 24 = .ok (.aload_n 0, 1) := by decide +kernel
theorem dX11_court_25 : decode cX11_court 25 = .ok (.iconst 0, 1) := by decide +kernel
theorem dX11_court_26 : decode cX11_court 26 = .ok (.putfield 245, 3) := by decide +kernel
theorem dX11_court_29 : decode cX11_court 29 = .ok (.iconst 1, 1) := by decide +kernel
theorem dX11_court_30 : decode cX11_court 30 = .ok (.istore_n 2, 1) := by decide +kernel
theorem dX11_court_31 : decode cX11_court 31 = .ok (.iload_n 2, 1) := by decide +kernel
theorem dX11_court_32 : decode cX11_court 32 = .ok (.ifCond .eq 18, 3) := by decide +kernel
theorem dX11_court_35 : decode cX11_court 35 = .ok (.aload_n 0, 1) := by decide +kernel
theorem dX11_court_36 : decode cX11_court 36 = .ok (.getfield 144, 3) := by decide +kernel
theorem dX11_court_39 : decode cX11_court 39 = .ok (.ifCond .eq 11, 3) := by decide +kernel
theorem dX11_court_42 : decode cX11_court 42 = .ok (.aload_n 0, 1) := by decide +kernel
theorem dX11_court_43 : decode cX11_court 43 = .ok (.invokevirtual 266, 3) := by decide +kernel
theorem dX11_court_46 : decode cX11_court 46 = .ok (.istore_n 2, 1) := by decide +kernel
theorem dX11_court_47 : decode cX11_court 47 = .ok (.goto (-16), 3) := by decide +kernel
theorem dX11_court_50 : decode cX11_court 50 = .ok (.aload_n 0, 1) := by decide +kernel
theorem dX11_court_51 : decode cX11_court 51 = .ok (.getfield 169, 3) := by decide +kernel
theorem dX11_court_54 : decode cX11_court 54 = .ok (.ifCond .ne 63, 3) := by decide +kernel
theorem dX11_court_57 : decode cX11_court 57 = .ok (.iconst 0, 1) := by decide +kernel
theorem dX11_court_58 : decode cX11_court 58 = .ok (.istore_n 3, 1) := by decide +kernel
theorem dX11_court_59 : decode cX11_court 59 = .ok (.iload_n 3, 1) := by decide +kernel
theorem dX11_court_60 : decode cX11_court 60 = .ok (.sipush 428, 3) := by decide +kernel
theorem dX11_court_63 : decode cX11_court 63 = .ok (.if_icmp .ge 25, 3) := by decide +kernel
theorem dX11_court_66 : decode cX11_court 66 = .ok (.aload_n 0, 1) := by decide +kernel
theorem dX11_court_67 : decode cX11_court 67 = .ok (.getfield 7, 3) := by decide +kernel
theorem dX11_court_70 : decode cX11_court 70 = .ok (.iload_n 3, 1) := by decide +kernel
theorem dX11_court_71 : decode cX11_court 71 = .ok (.aload_n 0, 1) := by decide +kernel
theorem dX11_court_72 : decode cX11_court 72 = .ok (.getfield 7, 3) := by decide +kernel
theorem dX11_court_75 : decode cX11_court 75 = .ok (.sipush 1712, 3) := by decide +kernel
theorem dX11_court_78 : decode cX11_court 78 = .ok (.iload_n 3, 1) := by decide +kernel
theorem dX11_court_79 : decode cX11_court 79 = .ok (.iadd, 1) := by decide +kernel
theorem dX11_court_80 : decode cX11_court 80 = .ok (.iaload, 1) := by decide +kernel
theorem dX11_court_81 : decode cX11_court 81 = .ok (.iastore, 1) := by decide +kernel
theorem dX11_court_82 : decode cX11_court 82 = .ok (.iinc 3 1, 3) := by decide +kernel
theorem dX11_court_85 : decode cX11_court 85 = .ok (.goto (-26), 3) := by decide +kernel
theorem dX11_court_88 : decode cX11_court 88 = .ok (.iconst 0, 1) := by decide +kernel
theorem dX11_court_89 : decode cX11_court 89 = .ok (.istore_n 3, 1) := by decide +kernel
theorem dX11_court_90 : decode cX11_court 90 = .ok (.iload_n 3, 1) := by decide +kernel
theorem dX11_court_91 : decode cX11_court 91 = .ok (.bipush 19, 2) := by decide +kernel
theorem dX11_court_93 : decode cX11_court 93 = .ok (.if_icmp .ge 24, 3) := by decide +kernel
theorem dX11_court_96 : decode cX11_court 96 = .ok (.aload_n 0, 1) := by decide +kernel
theorem dX11_court_97 : decode cX11_court 97 = .ok (.getfield 13, 3) := by decide +kernel
theorem dX11_court_100 : decode cX11_court 100 = .ok (.iload_n 3, 1) := by decide +kernel
theorem dX11_court_101 : decode cX11_court 101 = .ok (.aload_n 0, 1) := by decide +kernel
theorem dX11_court_102 : decode cX11_court 102 = .ok (.getfield 13, 3) := by decide +kernel
theorem dX11_court_105 : decode cX11_court 105 = .ok (.bipush 76, 2) := by decide +kernel
theorem dX11_court_107 : decode cX11_court 107 = .ok (.iload_n 3, 1) := by decide +kernel
theorem dX11_court_108 : decode cX11_court 108 = .ok (.iadd, 1) := by decide +kernel
theorem dX11_court_109 : decode cX11_court 109 = .ok (.laload, 1) := by decide +kernel
theorem dX11_court_110 : decode cX11_court 110 = .ok (.lastore, 1) := by decide +kernel
theorem dX11_court_111 : decode cX11_court 111 = .ok (.iinc 3 1, 3) := by decide +kernel
theorem dX11_court_114 : decode cX11_court 114 = .ok (.goto (-24), 3) := by decide +kernel
theorem dX11_court_117 : decode cX11_court 117 = .ok (.aload_n 0, 1) := by decide +kernel
theorem dX11_court_118 : decode cX11_court 118 = .ok (.aload_n 0, 1) := by decide +kernel
theorem dX11_court_119 : decode cX11_court 119 = .ok (.getfield 7, 3) := by decide +kernel
theorem dX11_court_122 : decode cX11_court 122 = .ok (.iconst 2, 1) := by decide +kernel
theorem dX11_court_123 : decode cX11_court 123 = .ok (.iaload, 1) := by decide +kernel
theorem dX11_court_124 : decode cX11_court 124 = .ok (.invokevirtual 269, 3) := by decide +kernel
theorem dX11_court_127 : decode cX11_court 127 = .ok (.ireturn, 1) := by decide +kernel
theorem dX11_claimTo_0 : decode cX11_claimTo 0 = .ok (.aload_n 0, 1) := by decide +kernel
theorem dX11_claimTo_1 : decode cX11_claimTo 1 = .ok (.bipush 8, 2) := by decide +kernel
theorem dX11_claimTo_3 : decode cX11_claimTo 3 = .ok (.aload_n 0, 1) := by decide +kernel
theorem dX11_claimTo_4 : decode cX11_claimTo 4 = .ok (.getfield 7, 3) := by decide +kernel
theorem dX11_claimTo_7 : decode cX11_claimTo 7 = .ok (.iconst 2, 1) := by decide +kernel
theorem dX11_claimTo_8 : decode cX11_claimTo 8 = .ok (.iaload, 1) := by decide +kernel
theorem dX11_claimTo_9 : decode cX11_claimTo 9 = .ok (.iload_n 1, 1) := by decide +kernel
theorem dX11_claimTo_10 : decode cX11_claimTo 10 = .ok (.invokevirtual 239, 3) := by decide +kernel
theorem dX11_claimTo_13 : decode cX11_claimTo 13 = .ok (.ireturn, 1) := by decide +kernel
theorem dX11_scholarTo_0 : decode cX11_scholarTo 0 = .ok (.aload_n 0, 1) := by decide +kernel
theorem dX11_scholarTo_1 : decode cX11_scholarTo 1 = .ok (.bipush 15, 2) := by decide +kernel
theorem dX11_scholarTo_3 : decode cX11_scholarTo 3 = .ok (.aload_n 0, 1) := by decide +kernel
theorem dX11_scholarTo_4 : decode cX11_scholarTo 4 = .ok (.getfield 7, 3) := by decide +kernel
theorem dX11_scholarTo_7 : decode cX11_scholarTo 7 = .ok (.iconst 3, 1) := by decide +kernel
theorem dX11_scholarTo_8 : decode cX11_scholarTo 8 = .ok (.iaload, 1) := by decide +kernel
theorem dX11_scholarTo_9 : decode cX11_scholarTo 9 = .ok (.iload_n 1, 1) := by decide +kernel
theorem dX11_scholarTo_10 : decode cX11_scholarTo 10 = .ok (.invokevirtual 239, 3) := by decide +kernel
theorem dX11_scholarTo_13 : decode cX11_scholarTo 13 = .ok (.ireturn, 1) := by decide +kernel
theorem dX11_bedTo_0 : decode cX11_bedTo 0 = .ok (.aload_n 0, 1) := by decide +kernel
theorem dX11_bedTo_1 : decode cX11_bedTo 1 = .ok (.iload_n 1, 1) := by decide +kernel
theorem dX11_bedTo_2 : decode cX11_bedTo 2 = .ok (.iconst 0, 1) := by decide +kernel
theorem dX11_bedTo_3 : decode cX11_bedTo 3 = .ok (.aload_n 0, 1) := by decide +kernel
theorem dX11_bedTo_4 : decode cX11_bedTo 4 = .ok (.getfield 7, 3) := by decide +kernel
theorem dX11_bedTo_7 : decode cX11_bedTo 7 = .ok (.iconst 0, 1) := by decide +kernel
theorem dX11_bedTo_8 : decode cX11_bedTo 8 = .ok (.iaload, 1) := by decide +kernel
theorem dX11_bedTo_9 : decode cX11_bedTo 9 = .ok (.iconst 1, 1) := by decide +kernel
theorem dX11_bedTo_10 : decode cX11_bedTo 10 = .ok (.isub, 1) := by decide +kernel
theorem dX11_bedTo_11 : decode cX11_bedTo 11 = .ok (.invokevirtual 197, 3) := by decide +kernel
theorem dX11_bedTo_14 : decode cX11_bedTo 14 = .ok (.ireturn, 1) := by decide +kernel
theorem dX11_test_0 : decode cX11_test 0 = .ok (.aload_n 0, 1) := by decide +kernel
theorem dX11_test_1 : decode cX11_test 1 = .ok (.ldc 192, 2) := by decide +kernel
theorem dX11_test_3 : decode cX11_test 3 = .ok (.invokevirtual 184, 3) := by decide +kernel
theorem dX11_test_6 : decode cX11_test 6 = .ok (.istore_n 2, 1) := by decide +kernel
theorem dX11_test_7 : decode cX11_test 7 = .ok (.iload_n 2, 1) := by decide +kernel
theorem dX11_test_8 : decode cX11_test 8 = .ok (.iconst 5, 1) := by decide +kernel
theorem dX11_test_9 : decode cX11_test 9 = .ok (.if_icmp .eq 21, 3) := by decide +kernel
theorem dX11_test_12 : decode cX11_test 12 = .ok (.iload_n 2, 1) := by decide +kernel
theorem dX11_test_13 : decode cX11_test 13 = .ok (.bipush 11, 2) := by decide +kernel
theorem dX11_test_15 : decode cX11_test 15 = .ok (.if_icmp .eq 15, 3) := by decide +kernel
theorem dX11_test_18 : decode cX11_test 18 = .ok (.iload_n 2, 1) := by decide +kernel
theorem dX11_test_19 : decode cX11_test 19 = .ok (.bipush 22, 2) := by decide +kernel
theorem dX11_test_21 : decode cX11_test 21 = .ok (.if_icmp .eq 9, 3) := by decide +kernel
theorem dX11_test_24 : decode cX11_test 24 = .ok (.aload_n 0, 1) := by decide +kernel
theorem dX11_test_25 : decode cX11_test 25 = .ok (.iconst 2, 1) := by decide +kernel
theorem dX11_test_26 : decode cX11_test 26 = .ok (.invokevirtual 181, 3) := by decide +kernel
theorem dX11_test_29 : decode cX11_test 29 = .ok (.ireturn, 1) := by decide +kernel
theorem dX11_test_30 : decode cX11_test 30 = .ok (.aload_n 0, 1) := by decide +kernel
theorem dX11_test_31 : decode cX11_test 31 = .ok (.getfield 7, 3) := by decide +kernel
theorem dX11_test_34 : decode cX11_test 34 = .ok (.iload_n 1, 1) := by decide +kernel
theorem dX11_test_35 : decode cX11_test 35 = .ok (.sipush 1800, 3) := by decide +kernel
theorem dX11_test_38 : decode cX11_test 38 = .ok (.iload_n 2, 1) := by decide +kernel
theorem dX11_test_39 : decode cX11_test 39 = .ok (.iadd, 1) := by decide +kernel
theorem dX11_test_40 : decode cX11_test 40 = .ok (.iastore, 1) := by decide +kernel
theorem dX11_test_41 : decode cX11_test 41 = .ok (.aload_n 0, 1) := by decide +kernel
theorem dX11_test_42 : decode cX11_test 42 = .ok (.invokevirtual 175, 3) := by decide +kernel
theorem dX11_test_45 : decode cX11_test 45 = .ok (.iload_n 2, 1) := by decide +kernel
theorem dX11_test_46 : decode cX11_test 46 = .ok (.bipush 22, 2) := by decide +kernel
theorem dX11_test_48 : decode cX11_test 48 = .ok (.if_icmp .ne 11, 3) := by decide +kernel
theorem dX11_test_51 : decode cX11_test 51 = .ok (.aload_n 0, 1) := by decide +kernel
theorem dX11_test_52 : decode cX11_test 52 = .ok (.iload_n 1, 1) := by decide +kernel
theorem dX11_test_53 : decode cX11_test 53 = .ok (.iconst 1, 1) := by decide +kernel
theorem dX11_test_54 : decode cX11_test 54 = .ok (.iadd, 1) := by decide +kernel
theorem dX11_test_55 : decode cX11_test 55 = .ok (.invokevirtual 272, 3) := by decide +kernel
theorem dX11_test_58 : decode cX11_test 58 = .ok (.ireturn, 1) := by decide +kernel
theorem dX11_test_59 : decode cX11_test 59 = .ok (.iload_n 2, 1) := by decide +kernel
theorem dX11_test_60 : decode cX11_test 60 = .ok (.bipush 11, 2) := by decide +kernel
theorem dX11_test_62 : decode cX11_test 62 = .ok (.if_icmp .ne 13, 3) := by decide +kernel
theorem dX11_test_65 : decode cX11_test 65 = .ok (.aload_n 0, 1) := by decide +kernel
theorem dX11_test_66 : decode cX11_test 66 = .ok (.iload_n 1, 1) := by decide +kernel
theorem dX11_test_67 : decode cX11_test 67 = .ok (.iconst 1, 1) := by decide +kernel
theorem dX11_test_68 : decode cX11_test 68 = .ok (.iadd, 1) := by decide +kernel
theorem dX11_test_69 : decode cX11_test 69 = .ok (.invokevirtual 275, 3) := by decide +kernel
theorem dX11_test_72 : decode cX11_test 72 = .ok (.goto 10, 3) := by decide +kernel
theorem dX11_test_75 : decode cX11_test 75 = .ok (.aload_n 0, 1) := by decide +kernel
theorem dX11_test_76 : decode cX11_test 76 = .ok (.iload_n 1, 1) := by decide +kernel
theorem dX11_test_77 : decode cX11_test 77 = .ok (.iconst 1, 1) := by decide +kernel
theorem dX11_test_78 : decode cX11_test 78 = .ok (.iadd, 1) := by decide +kernel
theorem dX11_test_79 : decode cX11_test 79 = .ok (.invokevirtual 278, 3) := by decide +kernel
theorem dX11_test_82 : decode cX11_test 82 = .ok (.istore_n 3, 1) := by decide +kernel
theorem dX11_test_83 : decode cX11_test 83 = .ok (.iload_n 3, 1) := by decide +kernel
theorem dX11_test_84 : decode cX11_test 84 = .ok (.ifCond .ne 5, 3) := by decide +kernel
theorem dX11_test_87 : decode cX11_test 87 = .ok (.iconst 0, 1) := by decide +kernel
theorem dX11_test_88 : decode cX11_test 88 = .ok (.ireturn, 1) := by decide +kernel
theorem dX11_test_89 : decode cX11_test 89 = .ok (.aload_n 0, 1) := by decide +kernel
theorem dX11_test_90 : decode cX11_test 90 = .ok (.bipush 60, 2) := by decide +kernel
theorem dX11_test_92 : decode cX11_test 92 = .ok (.invokevirtual 178, 3) := by decide +kernel
theorem dX11_test_95 : decode cX11_test 95 = .ok (.ifCond .ne 27, 3) := by decide +kernel
theorem dX11_test_98 : decode cX11_test 98 = .ok (.aload_n 0, 1) := by decide +kernel
theorem dX11_test_99 : decode cX11_test 99 = .ok (.bipush 62, 2) := by decide +kernel
theorem dX11_test_101 : decode cX11_test 101 = .ok (.invokevirtual 178, 3) := by decide +kernel
theorem dX11_test_104 : decode cX11_test 104 = .ok (.ifCond .ne 18, 3) := by decide +kernel
theorem dX11_test_107 : decode cX11_test 107 = .ok (.aload_n 0, 1) := by decide +kernel
theorem dX11_test_108 : decode cX11_test 108 = .ok (.bipush 61, 2) := by decide +kernel
theorem dX11_test_110 : decode cX11_test 110 = .ok (.invokevirtual 178, 3) := by decide +kernel
theorem dX11_test_113 : decode cX11_test 113 = .ok (.ifCond .ne 9, 3) := by decide +kernel
theorem dX11_test_116 : decode cX11_test 116 = .ok (.aload_n 0, 1) := by decide +kernel
theorem dX11_test_117 : decode cX11_test 117 = .ok (.iconst 2, 1) := by decide +kernel
theorem dX11_test_118 : decode cX11_test 118 = .ok (.invokevirtual 181, 3) := by decide +kernel
theorem dX11_test_121 : decode cX11_test 121 = .ok (.ireturn, 1) := by decide +kernel
theorem dX11_test_122 : decode cX11_test 122 = .ok (.aload_n 0, 1) := by decide +kernel
theorem dX11_test_123 : decode cX11_test 123 = .ok (.getfield 7, 3) := by decide +kernel
theorem dX11_test_126 : decode cX11_test 126 = .ok (.iload_n 1, 1) := by decide +kernel
theorem dX11_test_127 : decode cX11_test 127 = .ok (.iconst 5, 1) := by decide +kernel
theorem dX11_test_128 : decode cX11_test 128 = .ok (.iadd, 1) := by decide +kernel
theorem dX11_test_129 : decode cX11_test 129 = .ok (.aload_n 0, 1) := by decide +kernel
theorem dX11_test_130 : decode cX11_test 130 = .ok (.getfield 141, 3) := by decide +kernel
theorem dX11_test_133 : decode cX11_test 133 = .ok (.iastore, 1) := by decide +kernel
theorem dX11_test_134 : decode cX11_test 134 = .ok (.aload_n 0, 1) := by decide +kernel
theorem dX11_test_135 : decode cX11_test 135 = .ok (.invokevirtual 175, 3) := by decide +kernel
theorem dX11_test_138 : decode cX11_test 138 = .ok (.aload_n 0, 1) := by decide +kernel
theorem dX11_test_139 : decode cX11_test 139 = .ok (.iload_n 1, 1) := by decide +kernel
theorem dX11_test_140 : decode cX11_test 140 = .ok (.iconst 2, 1) := by decide +kernel
theorem dX11_test_141 : decode cX11_test 141 = .ok (.iadd, 1) := by decide +kernel
theorem dX11_test_142 : decode cX11_test 142 = .ok (.iconst 0, 1) := by decide +kernel
theorem dX11_test_143 : decode cX11_test 143 = .ok (.sipush 9999, 3) := by decide +kernel
theorem dX11_test_146 : decode cX11_test 146 = .ok (.invokevirtual 197, 3) := by decide +kernel
theorem dX11_test_149 : decode cX11_test 149 = .ok (.ireturn, 1) := by decide +kernel
theorem dX11_termOrder_0 : decode cX11_termOrder 0 = .ok (.iload_n 1, 1) := by decide +kernel
theorem dX11_termOrder_1 : decode cX11_termOrder 1 = .ok (.tableswitch 117 12 19 #[47, 55, 81, 89, 117, 117, 111, 100], 47) := by decide +kernel
theorem dX11_termOrder_48 : decode cX11_termOrder 48 = .ok (.aload_n 0, 1) := by decide +kernel
theorem dX11_termOrder_49 : decode cX11_termOrder 49 = .ok (.iload_n 2, 1) := by decide +kernel
theorem dX11_termOrder_50 : decode cX11_termOrder 50 = .ok (.iconst 1, 1) := by decide +kernel
theorem dX11_termOrder_51 : decode cX11_termOrder 51 = .ok (.iadd, 1) := by decide +kernel
theorem dX11_termOrder_52 : decode cX11_termOrder 52 = .ok (.invokevirtual 272, 3) := by decide +kernel
theorem dX11_termOrder_55 : decode cX11_termOrder 55 = .ok (.ireturn, 1) := by decide +kernel
theorem dX11_termOrder_56 : decode cX11_termOrder 56 = .ok (.aload_n 0, 1) := by decide +kernel
theorem dX11_termOrder_57 : decode cX11_termOrder 57 = .ok (.iload_n 2, 1) := by decide +kernel
theorem dX11_termOrder_58 : decode cX11_termOrder 58 = .ok (.iconst 1, 1) := by decide +kernel
theorem dX11_termOrder_59 : decode cX11_termOrder 59 = .ok (.iadd, 1) := by decide +kernel
theorem dX11_termOrder_60 : decode cX11_termOrder 60 = .ok (.invokevirtual 275, 3) := by decide +kernel
theorem dX11_termOrder_63 : decode cX11_termOrder 63 = .ok (.ifCond .eq 17, 3) := by decide +kernel
theorem dX11_termOrder_66 : decode cX11_termOrder 66 = .ok (.aload_n 0, 1) := by decide +kernel
theorem dX11_termOrder_67 : decode cX11_termOrder 67 = .ok (.iload_n 2, 1) := by decide +kernel
theorem dX11_termOrder_68 : decode cX11_termOrder 68 = .ok (.iconst 2, 1) := by decide +kernel
theorem dX11_termOrder_69 : decode cX11_termOrder 69 = .ok (.iadd, 1) := by decide +kernel
theorem dX11_termOrder_70 : decode cX11_termOrder 70 = .ok (.invokevirtual 278, 3) := by decide +kernel
theorem dX11_termOrder_73 : decode cX11_termOrder 73 = .ok (.ifCond .eq 7, 3) := by decide +kernel
theorem dX11_termOrder_76 : decode cX11_termOrder 76 = .ok (.iconst 1, 1) := by decide +kernel
theorem dX11_termOrder_77 : decode cX11_termOrder 77 = .ok (.goto 4, 3) := by decide +kernel
theorem dX11_termOrder_80 : decode cX11_termOrder 80 = .ok (.iconst 0, 1) := by decide +kernel
theorem dX11_termOrder_81 : decode cX11_termOrder 81 = .ok (.ireturn, 1) := by decide +kernel
theorem dX11_termOrder_82 : decode cX11_termOrder 82 = .ok (.aload_n 0, 1) := by decide +kernel
theorem dX11_termOrder_83 : decode cX11_termOrder 83 = .ok (.iload_n 2, 1) := by decide +kernel
theorem dX11_termOrder_84 : decode cX11_termOrder 84 = .ok (.iconst 1, 1) := by decide +kernel
theorem dX11_termOrder_85 : decode cX11_termOrder 85 = .ok (.iadd, 1) := by decide +kernel
theorem dX11_termOrder_86 : decode cX11_termOrder 86 = .ok (.invokevirtual 275, 3) := by decide +kernel
theorem dX11_termOrder_89 : decode cX11_termOrder 89 = .ok (.ireturn, 1) := by decide +kernel
theorem dX11_termOrder_90 : decode cX11_termOrder 90 = .ok (.aload_n 0, 1) := by decide +kernel
theorem dX11_termOrder_91 : decode cX11_termOrder 91 = .ok (.iload_n 2, 1) := by decide +kernel
theorem dX11_termOrder_92 : decode cX11_termOrder 92 = .ok (.iconst 1, 1) := by decide +kernel
theorem dX11_termOrder_93 : decode cX11_termOrder 93 = .ok (.iadd, 1) := by decide +kernel
theorem dX11_termOrder_94 : decode cX11_termOrder 94 = .ok (.iconst 1, 1) := by decide +kernel
theorem dX11_termOrder_95 : decode cX11_termOrder 95 = .ok (.bipush 40, 2) := by decide +kernel
theorem dX11_termOrder_97 : decode cX11_termOrder 97 = .ok (.invokevirtual 197, 3) := by decide +kernel
theorem dX11_termOrder_100 : decode cX11_termOrder 100 = .ok (.ireturn, 1) := by decide +kernel
theorem dX11_termOrder_101 : decode cX11_termOrder 101 = .ok (.aload_n 0, 1) := by decide +kernel
theorem dX11_termOrder_102 : decode cX11_termOrder 102 = .ok (.iload_n 2, 1) := by decide +kernel
theorem dX11_termOrder_103 : decode cX11_termOrder 103 = .ok (.iconst 1, 1) := by decide +kernel
theorem dX11_termOrder_104 : decode cX11_termOrder 104 = .ok (.iadd, 1) := by decide +kernel
theorem dX11_termOrder_105 : decode cX11_termOrder 105 = .ok (.iconst 1, 1) := by decide +kernel
theorem dX11_termOrder_106 : decode cX11_termOrder 106 = .ok (.bipush 99, 2) := by decide +kernel
theorem dX11_termOrder_108 : decode cX11_termOrder 108 = .ok (.invokevirtual 197, 3) := by decide +kernel
theorem dX11_termOrder_111 : decode cX11_termOrder 111 = .ok (.ireturn, 1) := by decide +kernel
theorem dX11_termOrder_112 : decode cX11_termOrder 112 = .ok (.aload_n 0, 1) := by decide +kernel
theorem dX11_termOrder_113 : decode cX11_termOrder 113 = .ok (.iload_n 2, 1) := by decide +kernel
theorem dX11_termOrder_114 : decode cX11_termOrder 114 = .ok (.invokevirtual 281, 3) := by decide +kernel
theorem dX11_termOrder_117 : decode cX11_termOrder 117 = .ok (.ireturn, 1) := by decide +kernel
theorem dX11_termOrder_118 : decode cX11_termOrder 118 = .ok (.iconst 1, 1) := by decide +kernel
theorem dX11_termOrder_119 : decode cX11_termOrder 119 = .ok (.ireturn, 1) := by decide +kernel
theorem dX11_termStep_0 : decode cX11_termStep 0 = .ok (.aload_n 0, 1) := by decide +kernel
theorem dX11_termStep_1 : decode cX11_termStep 1 = .ok (.ldc 192, 2) := by decide +kernel
theorem dX11_termStep_3 : decode cX11_termStep 3 = .ok (.invokevirtual 184, 3) := by decide +kernel
theorem dX11_termStep_6 : decode cX11_termStep 6 = .ok (.istore_n 1, 1) := by decide +kernel
theorem dX11_termStep_7 : decode cX11_termStep 7 = .ok (.aload_n 0, 1) := by decide +kernel
theorem dX11_termStep_8 : decode cX11_termStep 8 = .ok (.getfield 7, 3) := by decide +kernel
theorem dX11_termStep_11 : decode cX11_termStep 11 = .ok (.sipush 1719, 3) := by decide +kernel
theorem dX11_termStep_14 : decode cX11_termStep 14 = .ok (.iaload, 1) := by decide +kernel
theorem dX11_termStep_15 : decode cX11_termStep 15 = .ok (.istore_n 2, 1) := by decide +kernel
theorem dX11_termStep_16 : decode cX11_termStep 16 = .ok (.sipush 1772, 3) := by decide +kernel
theorem dX11_termStep_19 : decode cX11_termStep 19 = .ok (.bipush 6, 2) := by decide +kernel
theorem dX11_termStep_21 : decode cX11_termStep 21 = .ok (.iload_n 2, 1) := by decide +kernel
theorem dX11_termStep_22 : decode cX11_termStep 22 = .ok (.imul, 1) := by decide +kernel
theorem dX11_termStep_23 : decode cX11_termStep 23 = .ok (.iadd, 1) := by decide +kernel
theorem dX11_termStep_24 : decode cX11_termStep 24 = .ok (.istore_n 3, 1) := by decide +kernel
theorem dX11_termStep_25 : decode cX11_termStep 25 = .ok (.iload_n 1, 1) := by decide +kernel
theorem dX11_termStep_26 : decode cX11_termStep 26 = .ok (.bipush 18, 2) := by decide +kernel
theorem dX11_termStep_28 : decode cX11_termStep 28 = .ok (.if_icmp .eq 9, 3) := by decide +kernel
theorem dX11_termStep_31 : decode cX11_termStep 31 = .ok (.iload_n 1, 1) := by decide +kernel
theorem dX11_termStep_32 : decode cX11_termStep 32 = .ok (.bipush 19, 2) := by decide +kernel
theorem dX11_termStep_34 : decode cX11_termStep 34 = .ok (.if_icmp .ne 7, 3) := by decide +kernel
theorem dX11_termStep_37 : decode cX11_termStep 37 = .ok (.iconst 1, 1) := by decide +kernel
theorem dX11_termStep_38 : decode cX11_termStep 38 = .ok (.goto 4, 3) := by decide +kernel
theorem dX11_termStep_41 : decode cX11_termStep 41 = .ok (.iconst 0, 1) := by decide +kernel
theorem dX11_termStep_42 : decode cX11_termStep 42 = .ok (.istore 4, 2) := by decide +kernel
theorem dX11_termStep_44 : decode cX11_termStep 44 = .ok (.iload_n 1, 1) := by decide +kernel
theorem dX11_termStep_45 : decode cX11_termStep 45 = .ok (.bipush 12, 2) := by decide +kernel
theorem dX11_termStep_47 : decode cX11_termStep 47 = .ok (.if_icmp .lt 22, 3) := by decide +kernel
theorem dX11_termStep_50 : decode cX11_termStep 50 = .ok (.iload_n 1, 1) := by decide +kernel
theorem dX11_termStep_51 : decode cX11_termStep 51 = .ok (.bipush 21, 2) := by decide +kernel
theorem dX11_termStep_53 : decode cX11_termStep 53 = .ok (.if_icmp .gt 16, 3) := by decide +kernel
theorem dX11_termStep_56 : decode cX11_termStep 56 = .ok (.iload_n 1, 1) := by decide +kernel
theorem dX11_termStep_57 : decode cX11_termStep 57 = .ok (.bipush 20, 2) := by decide +kernel
theorem dX11_termStep_59 : decode cX11_termStep 59 = .ok (.if_icmp .ne 16, 3) := by decide +kernel
theorem dX11_termStep_62 : decode cX11_termStep 62 = .ok (.aload_n 0, 1) := by decide +kernel
theorem dX11_termStep_63 : decode cX11_termStep 63 = .ok (.getfield 284, 3) := by decide +kernel
theorem dX11_termStep_66 : decode cX11_termStep 66 = .ok (.ifCond .ne 9, 3) := by decide +kernel
theorem dX11_termStep_69 : decode cX11_termStep 69 = .ok (.aload_n 0, 1) := by decide +kernel
theorem dX11_termStep_70 : decode cX11_termStep 70 = .ok (.iconst 2, 1) := by decide +kernel
theorem dX11_termStep_71 : decode cX11_termStep 71 = .ok (.invokevirtual 181, 3) := by decide +kernel
theorem dX11_termStep_74 : decode cX11_termStep 74 = .ok (.ireturn, 1) := by decide +kernel
theorem dX11_termStep_75 : decode cX11_termStep 75 = .ok (.iload_n 1, 1) := by decide +kernel
theorem dX11_termStep_76 : decode cX11_termStep 76 = .ok (.bipush 20, 2) := by decide +kernel
theorem dX11_termStep_78 : decode cX11_termStep 78 = .ok (.if_icmp .eq 19, 3) := by decide +kernel
theorem dX11_termStep_81 : decode cX11_termStep 81 = .ok (.aload_n 0, 1) := by decide +kernel
theorem dX11_termStep_82 : decode cX11_termStep 82 = .ok (.getfield 287, 3) := by decide +kernel
theorem dX11_termStep_85 : decode cX11_termStep 85 = .ok (.bipush 30, 2) := by decide +kernel
theorem dX11_termStep_87 : decode cX11_termStep 87 = .ok (.if_icmp .ne 10, 3) := by decide +kernel
theorem dX11_termStep_90 : decode cX11_termStep 90 = .ok (.aload_n 0, 1) := by decide +kernel
theorem dX11_termStep_91 : decode cX11_termStep 91 = .ok (.bipush 6, 2) := by decide +kernel
theorem dX11_termStep_93 : decode cX11_termStep 93 = .ok (.invokevirtual 181, 3) := by decide +kernel
theorem dX11_termStep_96 : decode cX11_termStep 96 = .ok (.ireturn, 1) := by decide +kernel
theorem dX11_termStep_97 : decode cX11_termStep 97 = .ok (.iload 4, 2) := by decide +kernel
theorem dX11_termStep_99 : decode cX11_termStep 99 = .ok (.ifCond .eq 18, 3) := by decide +kernel
theorem dX11_termStep_102 : decode cX11_termStep 102 = .ok (.aload_n 0, 1) := by decide +kernel
theorem dX11_termStep_103 : decode cX11_termStep 103 = .ok (.getfield 284, 3) := by decide +kernel
theorem dX11_termStep_106 : decode cX11_termStep 106 = .ok (.iconst 3, 1) := by decide +kernel
theorem dX11_termStep_107 : decode cX11_termStep 107 = .ok (.if_icmp .ne 10, 3) := by decide +kernel
theorem dX11_termStep_110 : decode cX11_termStep 110 = .ok (.aload_n 0, 1) := by decide +kernel
theorem dX11_termStep_111 : decode cX11_termStep 111 = .ok (.bipush 7, 2) := by decide +kernel
theorem dX11_termStep_113 : decode cX11_termStep 113 = .ok (.invokevirtual 181, 3) := by decide +kernel
theorem dX11_termStep_116 : decode cX11_termStep 116 = .ok (.ireturn, 1) := by decide +kernel
theorem dX11_termStep_117 : decode cX11_termStep 117 = .ok (.aload_n 0, 1) := by decide +kernel
theorem dX11_termStep_118 : decode cX11_termStep 118 = .ok (.dup, 1) := by decide +kernel
theorem dX11_termStep_119 : decode cX11_termStep 119 = .ok (.getfield 287, 3) := by decide +kernel
theorem dX11_termStep_122 : decode cX11_termStep 122 = .ok (.iload_n 1, 1) := by decide +kernel
theorem dX11_termStep_123 : decode cX11_termStep 123 = .ok (.bipush 20, 2) := by decide +kernel
theorem dX11_termStep_125 : decode cX11_termStep 125 = .ok (.if_icmp .ne 7, 3) := by decide +kernel
theorem dX11_termStep_128 : decode cX11_termStep 128 = .ok (.iconst 0, 1) := by decide +kernel
theorem dX11_termStep_129 : decode cX11_termStep 129 = .ok (.goto 4, 3) := by decide +kernel
theorem dX11_termStep_132 : decode cX11_termStep 132 = .ok (.iconst 1, 1) := by decide +kernel
theorem dX11_termStep_133 : decode cX11_termStep 133 = .ok (.iadd, 1) := by decide +kernel
theorem dX11_termStep_134 : decode cX11_termStep 134 = .ok (.putfield 287, 3) := by decide +kernel
theorem dX11_termStep_137 : decode cX11_termStep 137 = .ok (.aload_n 0, 1) := by decide +kernel
theorem dX11_termStep_138 : decode cX11_termStep 138 = .ok (.getfield 7, 3) := by decide +kernel
theorem dX11_termStep_141 : decode cX11_termStep 141 = .ok (.iload_n 3, 1) := by decide +kernel
theorem dX11_termStep_142 : decode cX11_termStep 142 = .ok (.iload_n 1, 1) := by decide +kernel
theorem dX11_termStep_143 : decode cX11_termStep 143 = .ok (.iastore, 1) := by decide +kernel
theorem dX11_termStep_144 : decode cX11_termStep 144 = .ok (.iconst 1, 1) := by decide +kernel
theorem dX11_termStep_145 : decode cX11_termStep 145 = .ok (.istore 5, 2) := by decide +kernel
theorem dX11_termStep_147 : decode cX11_termStep 147 = .ok (.iload 5, 2) := by decide +kernel
theorem dX11_termStep_149 : decode cX11_termStep 149 = .ok (.bipush 6, 2) := by decide +kernel
theorem dX11_termStep_151 : decode cX11_termStep 151 = .ok (.if_icmp .ge 19, 3) := by decide +kernel
theorem dX11_termStep_154 : decode cX11_termStep 154 = .ok (.aload_n 0, 1) := by decide +kernel
theorem dX11_termStep_155 : decode cX11_termStep 155 = .ok (.getfield 7, 3) := by decide +kernel
theorem dX11_termStep_158 : decode cX11_termStep 158 = .ok (.iload_n 3, 1) := by decide +kernel
theorem dX11_termStep_159 : decode cX11_termStep 159 = .ok (.iload 5, 2) := by decide +kernel
theorem dX11_termStep_161 : decode cX11_termStep 161 = .ok (.iadd, 1) := by decide +kernel
theorem dX11_termStep_162 : decode cX11_termStep 162 = .ok (.iconst 0, 1) := by decide +kernel
theorem dX11_termStep_163 : decode cX11_termStep 163 = .ok (.iastore, 1) := by decide +kernel
theorem dX11_termStep_164 : decode cX11_termStep 164 = .ok (.iinc 5 1, 3) := by decide +kernel
theorem dX11_termStep_167 : decode cX11_termStep 167 = .ok (.goto (-20), 3) := by decide +kernel
theorem dX11_termStep_170 : decode cX11_termStep 170 = .ok (.aload_n 0, 1) := by decide +kernel
theorem dX11_termStep_171 : decode cX11_termStep 171 = .ok (.getfield 7, 3) := by decide +kernel
theorem dX11_termStep_174 : decode cX11_termStep 174 = .ok (.sipush 1719, 3) := by decide +kernel
theorem dX11_termStep_177 : decode cX11_termStep 177 = .ok (.dup2, 1) := by decide +kernel
theorem dX11_termStep_178 : decode cX11_termStep 178 = .ok (.iaload, 1) := by decide +kernel
theorem dX11_termStep_179 : decode cX11_termStep 179 = .ok (.iconst 1, 1) := by decide +kernel
theorem dX11_termStep_180 : decode cX11_termStep 180 = .ok (.iadd, 1) := by decide +kernel
theorem dX11_termStep_181 : decode cX11_termStep 181 = .ok (.iastore, 1) := by decide +kernel
theorem dX11_termStep_182 : decode cX11_termStep 182 = .ok (.aload_n 0, 1) := by decide +kernel
theorem dX11_termStep_183 : decode cX11_termStep 183 = .ok (.invokevirtual 175, 3) := by decide +kernel
theorem dX11_termStep_186 : decode cX11_termStep 186 = .ok (.aload_n 0, 1) := by decide +kernel
theorem dX11_termStep_187 : decode cX11_termStep 187 = .ok (.iload_n 1, 1) := by decide +kernel
theorem dX11_termStep_188 : decode cX11_termStep 188 = .ok (.iload_n 3, 1) := by decide +kernel
theorem dX11_termStep_189 : decode cX11_termStep 189 = .ok (.invokevirtual 290, 3) := by decide +kernel
theorem dX11_termStep_192 : decode cX11_termStep 192 = .ok (.ifCond .ne 5, 3) := by decide +kernel
theorem dX11_termStep_195 : decode cX11_termStep 195 = .ok (.iconst 0, 1) := by decide +kernel
theorem dX11_termStep_196 : decode cX11_termStep 196 = .ok (.ireturn, 1) := by decide +kernel
theorem dX11_termStep_197 : decode cX11_termStep 197 = .ok (.iload 4, 2) := by decide +kernel
theorem dX11_termStep_199 : decode cX11_termStep 199 = .ok (.ifCond .eq 23, 3) := by decide +kernel
theorem dX11_termStep_202 : decode cX11_termStep 202 = .ok (.aload_n 0, 1) := by decide +kernel
theorem dX11_termStep_203 : decode cX11_termStep 203 = .ok (.getfield 44, 3) := by decide +kernel
theorem dX11_termStep_206 : decode cX11_termStep 206 = .ok (.aload_n 0, 1) := by decide +kernel
theorem dX11_termStep_207 : decode cX11_termStep 207 = .ok (.getfield 284, 3) := by decide +kernel
theorem dX11_termStep_210 : decode cX11_termStep 210 = .ok (.iload_n 2, 1) := by decide +kernel
theorem dX11_termStep_211 : decode cX11_termStep 211 = .ok (.iastore, 1) := by decide +kernel
theorem dX11_termStep_212 : decode cX11_termStep 212 = .ok (.aload_n 0, 1) := by decide +kernel
theorem dX11_termStep_213 : decode cX11_termStep 213 = .ok (.dup, 1) := by decide +kernel
theorem dX11_termStep_214 : decode cX11_termStep 214 = .ok (.getfield 284, 3) := by decide +kernel
theorem dX11_termStep_217 : decode cX11_termStep 217 = .ok (.iconst 1, 1) := by decide +kernel
theorem dX11_termStep_218 : decode cX11_termStep 218 = .ok (.iadd, 1) := by decide +kernel
theorem dX11_termStep_219 : decode cX11_termStep 219 = .ok (.putfield 284, 3) := by decide +kernel
theorem dX11_termStep_222 : decode cX11_termStep 222 = .ok (.iload_n 1, 1) := by decide +kernel
theorem dX11_termStep_223 : decode cX11_termStep 223 = .ok (.bipush 20, 2) := by decide +kernel
theorem dX11_termStep_225 : decode cX11_termStep 225 = .ok (.if_icmp .ne 54, 3) := by decide +kernel
theorem dX11_termStep_228 : decode cX11_termStep 228 = .ok (.aload_n 0, 1) := by decide +kernel
theorem dX11_termStep_229 : decode cX11_termStep 229 = .ok (.dup, 1) := by decide +kernel
theorem dX11_termStep_230 : decode cX11_termStep 230 = .ok (.getfield 284, 3) := by decide +kernel
theorem dX11_termStep_233 : decode cX11_termStep 233 = .ok (.iconst 1, 1) := by decide +kernel
theorem dX11_termStep_234 : decode cX11_termStep 234 = .ok (.isub, 1) := by decide +kernel
theorem dX11_termStep_235 : decode cX11_termStep 235 = .ok (.putfield 284, 3) := by decide +kernel
theorem dX11_termStep_238 : decode cX11_termStep 238 = .ok (.aload_n 0, 1) := by decide +kernel
theorem dX11_termStep_239 : decode cX11_termStep 239 = .ok (.getfield 7, 3) := by decide +kernel
theorem dX11_termStep_242 : decode cX11_termStep 242 = .ok (.iload_n 3, 1) := by decide +kernel
theorem dX11_termStep_243 : decode cX11_termStep 243 = .ok (.iconst 4, 1) := by decide +kernel
theorem dX11_termStep_244 : decode cX11_termStep 244 = .ok (.iadd, 1) := by decide +kernel
theorem dX11_termStep_245 : decode cX11_termStep 245 = .ok (.aload_n 0, 1) := by decide +kernel
theorem dX11_termStep_246 : decode cX11_termStep 246 = .ok (.getfield 44, 3) := by decide +kernel
theorem dX11_termStep_249 : decode cX11_termStep 249 = .ok (.aload_n 0, 1) := by decide +kernel
theorem dX11_termStep_250 : decode cX11_termStep 250 = .ok (.getfield 284, 3) := by decide +kernel
theorem dX11_termStep_253 : decode cX11_termStep 253 = .ok (.iaload, 1) := by decide +kernel
theorem dX11_termStep_254 : decode cX11_termStep 254 = .ok (.iastore, 1) := by decide +kernel
theorem dX11_termStep_255 : decode cX11_termStep 255 = .ok (.aload_n 0, 1) := by decide +kernel
theorem dX11_termStep_256 : decode cX11_termStep 256 = .ok (.getfield 7, 3) := by decide +kernel
theorem dX11_termStep_259 : decode cX11_termStep 259 = .ok (.sipush 1772, 3) := by decide +kernel
theorem dX11_termStep_262 : decode cX11_termStep 262 = .ok (.bipush 6, 2) := by decide +kernel
theorem dX11_termStep_264 : decode cX11_termStep 264 = .ok (.aload_n 0, 1) := by decide +kernel
theorem dX11_termStep_265 : decode cX11_termStep 265 = .ok (.getfield 44, 3) := by decide +kernel
theorem dX11_termStep_268 : decode cX11_termStep 268 = .ok (.aload_n 0, 1) := by decide +kernel
theorem dX11_termStep_269 : decode cX11_termStep 269 = .ok (.getfield 284, 3) := by decide +kernel
theorem dX11_termStep_272 : decode cX11_termStep 272 = .ok (.iaload, 1) := by decide +kernel
theorem dX11_termStep_273 : decode cX11_termStep 273 = .ok (.imul, 1) := by decide +kernel
theorem dX11_termStep_274 : decode cX11_termStep 274 = .ok (.iadd, 1) := by decide +kernel
theorem dX11_termStep_275 : decode cX11_termStep 275 = .ok (.iconst 4, 1) := by decide +kernel
theorem dX11_termStep_276 : decode cX11_termStep 276 = .ok (.iadd, 1) := by decide +kernel
theorem dX11_termStep_277 : decode cX11_termStep 277 = .ok (.iload_n 2, 1) := by decide +kernel
theorem dX11_termStep_278 : decode cX11_termStep 278 = .ok (.iastore, 1) := by decide +kernel
theorem dX11_termStep_279 : decode cX11_termStep 279 = .ok (.aload_n 0, 1) := by decide +kernel
theorem dX11_termStep_280 : decode cX11_termStep 280 = .ok (.bipush 59, 2) := by decide +kernel
theorem dX11_termStep_282 : decode cX11_termStep 282 = .ok (.invokevirtual 260, 3) := by decide +kernel
theorem dX11_termStep_285 : decode cX11_termStep 285 = .ok (.ireturn, 1) := by decide +kernel
theorem dX11_terms_0 : decode cX11_terms 0 = .ok (.aload_n 0, 1) := by decide +kernel
theorem dX11_terms_1 : decode cX11_terms 1 = .ok (.iload_n 1, 1) := by decide +kernel
theorem dX11_terms_2 : decode cX11_terms 2 = .ok (.sipush 300, 3) := by decide +kernel
theorem dX11_terms_5 : decode cX11_terms 5 = .ok (.invokevirtual 263, 3) := by decide +kernel
theorem dX11_terms_8 : decode cX11_terms 8 = .ok (.ifCond .ne 9, 3) := by decide +kernel
theorem dX11_terms_11 : decode cX11_terms 11 = .ok (.aload_n 0, 1) := by decide +kernel
theorem dX11_terms_12 : decode cX11_terms 12 = .ok (.iconst 1, 1) := by decide +kernel
theorem dX11_terms_13 : decode cX11_terms 13 = .ok (.invokevirtual 99, 3) := by decide +kernel
theorem dX11_terms_16 : decode cX11_terms 16 = .ok (.ireturn, 1) := by decide +kernel
theorem dX11_terms_17 : decode cX11_terms 17 = .ok (.aload_n 0, 1) := by decide +kernel
theorem dX11_terms_18 : decode cX11_terms 18 = .ok (.getfield 7, 3) := by decide +kernel
theorem dX11_terms_21 : decode cX11_terms 21 = .ok (.sipush 1719, 3) := by decide +kernel
theorem dX11_terms_24 : decode cX11_terms 24 = .ok (.iconst 0, 1) := by decide +kernel
theorem dX11_terms_25 : decode cX11_terms 25 = .ok (.iastore, 1) := by decide +kernel
theorem dX11_terms_26 : decode cX11_terms 26 = .ok (.aload_n 0, 1) := by decide +kernel
theorem dX11_terms_27 : decode cX11_terms 27 = .ok (.iconst 0, 1) := by decide +kernel
theorem dX11_terms_28 : decode cX11_terms 28 = .ok (.putfield 284, 3) := by decide +kernel
theorem dX11_terms_31 : decode cX11_terms 31 = .ok (.aload_n 0, 1) := by decide +kernel
theorem dX11_terms_32 : decode cX11_terms 32 = .ok (.iconst 0, 1) := by decide +kernel
theorem dX11_terms_33 : decode cX11_terms 33 = .ok (.putfield 287, 3) := by decide +kernel
theorem dX11_terms_36 : decode cX11_terms 36 = .ok (.iconst 1, 1) := by decide +kernel
theorem dX11_terms_37 : decode cX11_terms 37 = .ok (.istore_n 2, 1) := by decide +kernel
theorem dX11_terms_38 : decode cX11_terms 38 = .ok (.iload_n 2, 1) := by decide +kernel
theorem dX11_terms_39 : decode cX11_terms 39 = .ok (.ifCond .eq 18, 3) := by decide +kernel
theorem dX11_terms_42 : decode cX11_terms 42 = .ok (.aload_n 0, 1) := by decide +kernel
theorem dX11_terms_43 : decode cX11_terms 43 = .ok (.getfield 144, 3) := by decide +kernel
theorem dX11_terms_46 : decode cX11_terms 46 = .ok (.ifCond .eq 11, 3) := by decide +kernel
theorem dX11_terms_49 : decode cX11_terms 49 = .ok (.aload_n 0, 1) := by decide +kernel
theorem dX11_terms_50 : decode cX11_terms 50 = .ok (.invokevirtual 293, 3) := by decide +kernel
theorem dX11_terms_53 : decode cX11_terms 53 = .ok (.istore_n 2, 1) := by decide +kernel
theorem dX11_terms_54 : decode cX11_terms 54 = .ok (.goto (-16), 3) := by decide +kernel
theorem dX11_terms_57 : decode cX11_terms 57 = .ok (.aload_n 0, 1) := by decide +kernel
theorem dX11_terms_58 : decode cX11_terms 58 = .ok (.getfield 169, 3) := by decide +kernel
theorem dX11_terms_61 : decode cX11_terms 61 = .ok (.ifCond .ne 16, 3) := by decide +kernel
theorem dX11_terms_64 : decode cX11_terms 64 = .ok (.aload_n 0, 1) := by decide +kernel
theorem dX11_terms_65 : decode cX11_terms 65 = .ok (.getfield 284, 3) := by decide +kernel
theorem dX11_terms_68 : decode cX11_terms 68 = .ok (.ifCond .le 9, 3) := by decide +kernel
theorem dX11_terms_71 : decode cX11_terms 71 = .ok (.aload_n 0, 1) := by decide +kernel
theorem dX11_terms_72 : decode cX11_terms 72 = .ok (.iconst 2, 1) := by decide +kernel
theorem dX11_terms_73 : decode cX11_terms 73 = .ok (.invokevirtual 181, 3) := by decide +kernel
theorem dX11_terms_76 : decode cX11_terms 76 = .ok (.pop, 1) := by decide +kernel
theorem dX11_terms_77 : decode cX11_terms 77 = .ok (.aload_n 0, 1) := by decide +kernel
theorem dX11_terms_78 : decode cX11_terms 78 = .ok (.getfield 169, 3) := by decide +kernel
theorem dX11_terms_81 : decode cX11_terms 81 = .ok (.ifCond .ne 50, 3) := by decide +kernel
theorem dX11_terms_84 : decode cX11_terms 84 = .ok (.aload_n 0, 1) := by decide +kernel
theorem dX11_terms_85 : decode cX11_terms 85 = .ok (.getfield 7, 3) := by decide +kernel
theorem dX11_terms_88 : decode cX11_terms 88 = .ok (.bipush 7, 2) := by decide +kernel
theorem dX11_terms_90 : decode cX11_terms 90 = .ok (.aload_n 0, 1) := by decide +kernel
theorem dX11_terms_91 : decode cX11_terms 91 = .ok (.getfield 7, 3) := by decide +kernel
theorem dX11_terms_94 : decode cX11_terms 94 = .ok (.sipush 1719, 3) := by decide +kernel
theorem dX11_terms_97 : decode cX11_terms 97 = .ok (.iaload, 1) := by decide +kernel
theorem dX11_terms_98 : decode cX11_terms 98 = .ok (.iastore, 1) := by decide +kernel
theorem dX11_terms_99 : decode cX11_terms 99 = .ok (.bipush 60, 2) := by decide +kernel
theorem dX11_terms_101 : decode cX11_terms 101 = .ok (.istore_n 3, 1) := by decide +kernel
theorem dX11_terms_102 : decode cX11_terms 102 = .ok (.iload_n 3, 1) := by decide +kernel
theorem dX11_terms_103 : decode cX11_terms 103 = .ok (.sipush 420, 3) := by decide +kernel
theorem dX11_terms_106 : decode cX11_terms 106 = .ok (.if_icmp .ge 25, 3) := by decide +kernel
theorem dX11_terms_109 : decode cX11_terms 109 = .ok (.aload_n 0, 1) := by decide +kernel
theorem dX11_terms_110 : decode cX11_terms 110 = .ok (.getfield 7, 3) := by decide +kernel
theorem dX11_terms_113 : decode cX11_terms 113 = .ok (.iload_n 3, 1) := by decide +kernel
theorem dX11_terms_114 : decode cX11_terms 114 = .ok (.aload_n 0, 1) := by decide +kernel
theorem dX11_terms_115 : decode cX11_terms 115 = .ok (.getfield 7, 3) := by decide +kernel
theorem dX11_terms_118 : decode cX11_terms 118 = .ok (.sipush 1712, 3) := by decide +kernel
theorem dX11_terms_121 : decode cX11_terms 121 = .ok (.iload_n 3, 1) := by decide +kernel
theorem dX11_terms_122 : decode cX11_terms 122 = .ok (.iadd, 1) := by decide +kernel
theorem dX11_terms_123 : decode cX11_terms 123 = .ok (.iaload, 1) := by decide +kernel
theorem dX11_terms_124 : decode cX11_terms 124 = .ok (.iastore, 1) := by decide +kernel
theorem dX11_terms_125 : decode cX11_terms 125 = .ok (.iinc 3 1, 3) := by decide +kernel
theorem dX11_terms_128 : decode cX11_terms 128 = .ok (.goto (-26), 3) := by decide +kernel
theorem dX11_terms_131 : decode cX11_terms 131 = .ok (.aload_n 0, 1) := by decide +kernel
theorem dX11_terms_132 : decode cX11_terms 132 = .ok (.aload_n 0, 1) := by decide +kernel
theorem dX11_terms_133 : decode cX11_terms 133 = .ok (.getfield 287, 3) := by decide +kernel
theorem dX11_terms_136 : decode cX11_terms 136 = .ok (.invokevirtual 269, 3) := by decide +kernel
theorem dX11_terms_139 : decode cX11_terms 139 = .ok (.ireturn, 1) := by decide +kernel
theorem dX11_isBed_0 : decode cX11_isBed 0 = .ok (.iload_n 1, 1) := by decide +kernel
theorem dX11_isBed_1 : decode cX11_isBed 1 = .ok (.ifCond .lt 17, 3) := by decide +kernel
theorem dX11_isBed_4 : decode cX11_isBed 4 = .ok (.iload_n 1, 1) := by decide +kernel
theorem dX11_isBed_5 : decode cX11_isBed 5 = .ok (.aload_n 0, 1) := by decide +kernel
theorem dX11_isBed_6 : decode cX11_isBed 6 = .ok (.getfield 7, 3) := by decide +kernel
theorem dX11_isBed_9 : decode cX11_isBed 9 = .ok (.iconst 0, 1) := by decide +kernel
theorem dX11_isBed_10 : decode cX11_isBed 10 = .ok (.iaload, 1) := by decide +kernel
theorem dX11_isBed_11 : decode cX11_isBed 11 = .ok (.if_icmp .ge 7, 3) := by decide +kernel
theorem dX11_isBed_14 : decode cX11_isBed 14 = .ok (.iconst 1, 1) := by decide +kernel
theorem dX11_isBed_15 : decode cX11_isBed 15 = .ok (.goto 4, 3) := by decide +kernel
theorem dX11_isBed_18 : decode cX11_isBed 18 = .ok (.iconst 0, 1) := by decide +kernel
theorem dX11_isBed_19 : decode cX11_isBed 19 = .ok (.ireturn, 1) := by decide +kernel
theorem dX11_isCase_0 : decode cX11_isCase 0 = .ok (.iload_n 1, 1) := by decide +kernel
theorem dX11_isCase_1 : decode cX11_isCase 1 = .ok (.ifCond .lt 17, 3) := by decide +kernel
theorem dX11_isCase_4 : decode cX11_isCase 4 = .ok (.iload_n 1, 1) := by decide +kernel
theorem dX11_isCase_5 : decode cX11_isCase 5 = .ok (.aload_n 0, 1) := by decide +kernel
theorem dX11_isCase_6 : decode cX11_isCase 6 = .ok (.getfield 7, 3) := by decide +kernel
theorem dX11_isCase_9 : decode cX11_isCase 9 = .ok (.iconst 1, 1) := by decide +kernel
theorem dX11_isCase_10 : decode cX11_isCase 10 = .ok (.iaload, 1) := by decide +kernel
theorem dX11_isCase_11 : decode cX11_isCase 11 = .ok (.if_icmp .ge 7, 3) := by decide +kernel
theorem dX11_isCase_14 : decode cX11_isCase 14 = .ok (.iconst 1, 1) := by decide +kernel
theorem dX11_isCase_15 : decode cX11_isCase 15 = .ok (.goto 4, 3) := by decide +kernel
theorem dX11_isCase_18 : decode cX11_isCase 18 = .ok (.iconst 0, 1) := by decide +kernel
theorem dX11_isCase_19 : decode cX11_isCase 19 = .ok (.ireturn, 1) := by decide +kernel
theorem dX11_isClaim_0 : decode cX11_isClaim 0 = .ok (.iload_n 1, 1) := by decide +kernel
theorem dX11_isClaim_1 : decode cX11_isClaim 1 = .ok (.ifCond .lt 17, 3) := by decide +kernel
theorem dX11_isClaim_4 : decode cX11_isClaim 4 = .ok (.iload_n 1, 1) := by decide +kernel
theorem dX11_isClaim_5 : decode cX11_isClaim 5 = .ok (.aload_n 0, 1) := by decide +kernel
theorem dX11_isClaim_6 : decode cX11_isClaim 6 = .ok (.getfield 7, 3) := by decide +kernel
theorem dX11_isClaim_9 : decode cX11_isClaim 9 = .ok (.iconst 2, 1) := by decide +kernel
theorem dX11_isClaim_10 : decode cX11_isClaim 10 = .ok (.iaload, 1) := by decide +kernel
theorem dX11_isClaim_11 : decode cX11_isClaim 11 = .ok (.if_icmp .ge 7, 3) := by decide +kernel
theorem dX11_isClaim_14 : decode cX11_isClaim 14 = .ok (.iconst 1, 1) := by decide +kernel
theorem dX11_isClaim_15 : decode cX11_isClaim 15 = .ok (.goto 4, 3) := by decide +kernel
theorem dX11_isClaim_18 : decode cX11_isClaim 18 = .ok (.iconst 0, 1) := by decide +kernel
theorem dX11_isClaim_19 : decode cX11_isClaim 19 = .ok (.ireturn, 1) := by decide +kernel
theorem dX11_isScholar_0 : decode cX11_isScholar 0 = .ok (.iload_n 1, 1) := by decide +kernel
theorem dX11_isScholar_1 : decode cX11_isScholar 1 = .ok (.ifCond .lt 17, 3) := by decide +kernel
theorem dX11_isScholar_4 : decode cX11_isScholar 4 = .ok (.iload_n 1, 1) := by decide +kernel
theorem dX11_isScholar_5 : decode cX11_isScholar 5 = .ok (.aload_n 0, 1) := by decide +kernel
theorem dX11_isScholar_6 : decode cX11_isScholar 6 = .ok (.getfield 7, 3) := by decide +kernel
theorem dX11_isScholar_9 : decode cX11_isScholar 9 = .ok (.iconst 3, 1) := by decide +kernel
theorem dX11_isScholar_10 : decode cX11_isScholar 10 = .ok (.iaload, 1) := by decide +kernel
theorem dX11_isScholar_11 : decode cX11_isScholar 11 = .ok (.if_icmp .ge 7, 3) := by decide +kernel
theorem dX11_isScholar_14 : decode cX11_isScholar 14 = .ok (.iconst 1, 1) := by decide +kernel
theorem dX11_isScholar_15 : decode cX11_isScholar 15 = .ok (.goto 4, 3) := by decide +kernel
theorem dX11_isScholar_18 : decode cX11_isScholar 18 = .ok (.iconst 0, 1) := by decide +kernel
theorem dX11_isScholar_19 : decode cX11_isScholar 19 = .ok (.ireturn, 1) := by decide +kernel
theorem dX11_allCases_0 : decode cX11_allCases 0 = .ok (.iconst 1, 1) := by decide +kernel
theorem dX11_allCases_1 : decode cX11_allCases 1 = .ok (.aload_n 0, 1) := by decide +kernel
theorem dX11_allCases_2 : decode cX11_allCases 2 = .ok (.getfield 7, 3) := by decide +kernel
theorem dX11_allCases_5 : decode cX11_allCases 5 = .ok (.iconst 1, 1) := by decide +kernel
theorem dX11_allCases_6 : decode cX11_allCases 6 = .ok (.iaload, 1) := by decide +kernel
theorem dX11_allCases_7 : decode cX11_allCases 7 = .ok (.ishl, 1) := by decide +kernel
theorem dX11_allCases_8 : decode cX11_allCases 8 = .ok (.iconst 1, 1) := by decide +kernel
theorem dX11_allCases_9 : decode cX11_allCases 9 = .ok (.isub, 1) := by decide +kernel
theorem dX11_allCases_10 : decode cX11_allCases 10 = .ok (.ireturn, 1) := by decide +kernel
theorem dX11_areCases_0 : decode cX11_areCases 0 = .ok (.lload_n 1, 1) := by decide +kernel
theorem dX11_areCases_1 : decode cX11_areCases 1 = .ok (.lconst 0, 1) := by decide +kernel
theorem dX11_areCases_2 : decode cX11_areCases 2 = .ok (.aload_n 0, 1) := by decide +kernel
theorem dX11_areCases_3 : decode cX11_areCases 3 = .ok (.invokevirtual 296, 3) := by decide +kernel
theorem dX11_areCases_6 : decode cX11_areCases 6 = .ok (.i2l, 1) := by decide +kernel
theorem dX11_areCases_7 : decode cX11_areCases 7 = .ok (.invokestatic 299, 3) := by decide +kernel
theorem dX11_areCases_10 : decode cX11_areCases 10 = .ok (.ireturn, 1) := by decide +kernel
theorem dX11_bits_0 : decode cX11_bits 0 = .ok (.iconst 0, 1) := by decide +kernel
theorem dX11_bits_1 : decode cX11_bits 1 = .ok (.istore_n 1, 1) := by decide +kernel
theorem dX11_bits_2 : decode cX11_bits 2 = .ok (.iload_n 0, 1) := by decide +kernel
theorem dX11_bits_3 : decode cX11_bits 3 = .ok (.istore_n 2, 1) := by decide +kernel
theorem dX11_bits_4 : decode cX11_bits 4 = .ok (.iload_n 2, 1) := by decide +kernel
theorem dX11_bits_5 : decode cX11_bits 5 = .ok (.ifCond .eq 15, 3) := by decide +kernel
theorem dX11_bits_8 : decode cX11_bits 8 = .ok (.iinc 1 1, 3) := by decide +kernel
theorem dX11_bits_11 : decode cX11_bits 11 = .ok (.iload_n 2, 1) := by decide +kernel
theorem dX11_bits_12 : decode cX11_bits 12 = .ok (.iload_n 2, 1) := by decide +kernel
theorem dX11_bits_13 : decode cX11_bits 13 = .ok (.iconst 1, 1) := by decide +kernel
theorem dX11_bits_14 : decode cX11_bits 14 = .ok (.isub, 1) := by decide +kernel
theorem dX11_bits_15 : decode cX11_bits 15 = .ok (.iand, 1) := by decide +kernel
theorem dX11_bits_16 : decode cX11_bits 16 = .ok (.istore_n 2, 1) := by decide +kernel
theorem dX11_bits_17 : decode cX11_bits 17 = .ok (.goto (-13), 3) := by decide +kernel
theorem dX11_bits_20 : decode cX11_bits 20 = .ok (.iload_n 1, 1) := by decide +kernel
theorem dX11_bits_21 : decode cX11_bits 21 = .ok (.ireturn, 1) := by decide +kernel
theorem dX11_truthOf_0 : decode cX11_truthOf 0 = .ok (.aload_n 0, 1) := by decide +kernel
theorem dX11_truthOf_1 : decode cX11_truthOf 1 = .ok (.getfield 7, 3) := by decide +kernel
theorem dX11_truthOf_4 : decode cX11_truthOf 4 = .ok (.iload_n 1, 1) := by decide +kernel
theorem dX11_truthOf_5 : decode cX11_truthOf 5 = .ok (.invokestatic 230, 3) := by decide +kernel
theorem dX11_truthOf_8 : decode cX11_truthOf 8 = .ok (.iconst 2, 1) := by decide +kernel
theorem dX11_truthOf_9 : decode cX11_truthOf 9 = .ok (.iadd, 1) := by decide +kernel
theorem dX11_truthOf_10 : decode cX11_truthOf 10 = .ok (.iaload, 1) := by decide +kernel
theorem dX11_truthOf_11 : decode cX11_truthOf 11 = .ok (.ireturn, 1) := by decide +kernel
theorem dX11_weightOf_0 : decode cX11_weightOf 0 = .ok (.iconst 0, 1) := by decide +kernel
theorem dX11_weightOf_1 : decode cX11_weightOf 1 = .ok (.istore_n 2, 1) := by decide +kernel
theorem dX11_weightOf_2 : decode cX11_weightOf 2 = .ok (.iconst 0, 1) := by decide +kernel
theorem dX11_weightOf_3 : decode cX11_weightOf 3 = .ok (.istore_n 3, 1) := by decide +kernel
theorem dX11_weightOf_4 : decode cX11_weightOf 4 = .ok (.iload_n 3, 1) := by decide +kernel
theorem dX11_weightOf_5 : decode cX11_weightOf 5 = .ok (.aload_n 0, 1) := by decide +kernel
theorem dX11_weightOf_6 : decode cX11_weightOf 6 = .ok (.getfield 7, 3) := by decide +kernel
theorem dX11_weightOf_9 : decode cX11_weightOf 9 = .ok (.iconst 1, 1) := by decide +kernel
theorem dX11_weightOf_10 : decode cX11_weightOf 10 = .ok (.iaload, 1) := by decide +kernel
theorem dX11_weightOf_11 : decode cX11_weightOf 11 = .ok (.if_icmp .ge 34, 3) := by decide +kernel
theorem dX11_weightOf_14 : decode cX11_weightOf 14 = .ok (.iload_n 2, 1) := by decide +kernel
theorem dX11_weightOf_15 : decode cX11_weightOf 15 = .ok (.aload_n 0, 1) := by decide +kernel
theorem dX11_weightOf_16 : decode cX11_weightOf 16 = .ok (.iload_n 1, 1) := by decide +kernel
theorem dX11_weightOf_17 : decode cX11_weightOf 17 = .ok (.iload_n 3, 1) := by decide +kernel
theorem dX11_weightOf_18 : decode cX11_weightOf 18 = .ok (.invokevirtual 236, 3) := by decide +kernel
theorem dX11_weightOf_21 : decode cX11_weightOf 21 = .ok (.ifCond .eq 15, 3) := by decide +kernel
theorem dX11_weightOf_24 : decode cX11_weightOf 24 = .ok (.aload_n 0, 1) := by decide +kernel
theorem dX11_weightOf_25 : decode cX11_weightOf 25 = .ok (.getfield 7, 3) := by decide +kernel
theorem dX11_weightOf_28 : decode cX11_weightOf 28 = .ok (.bipush 22, 2) := by decide +kernel
theorem dX11_weightOf_30 : decode cX11_weightOf 30 = .ok (.iload_n 3, 1) := by decide +kernel
theorem dX11_weightOf_31 : decode cX11_weightOf 31 = .ok (.iadd, 1) := by decide +kernel
theorem dX11_weightOf_32 : decode cX11_weightOf 32 = .ok (.iaload, 1) := by decide +kernel
theorem dX11_weightOf_33 : decode cX11_weightOf 33 = .ok (.goto 4, 3) := by decide +kernel
theorem dX11_weightOf_36 : decode cX11_weightOf 36 = .ok (.iconst 0, 1) := by decide +kernel
theorem dX11_weightOf_37 : decode cX11_weightOf 37 = .ok (.iadd, 1) := by decide +kernel
theorem dX11_weightOf_38 : decode cX11_weightOf 38 = .ok (.istore_n 2, 1) := by decide +kernel
theorem dX11_weightOf_39 : decode cX11_weightOf 39 = .ok (.iinc 3 1, 3) := by decide +kernel
theorem dX11_weightOf_42 : decode cX11_weightOf 42 = .ok (.goto (-38), 3) := by decide +kernel
theorem dX11_weightOf_45 : decode cX11_weightOf 45 = .ok (.iload_n 2, 1) := by decide +kernel
theorem dX11_weightOf_46 : decode cX11_weightOf 46 = .ok (.ireturn, 1) := by decide +kernel
theorem dX11_partBy_0 : decode cX11_partBy 0 = .ok (.aload_n 0, 1) := by decide +kernel
theorem dX11_partBy_1 : decode cX11_partBy 1 = .ok (.invokevirtual 296, 3) := by decide +kernel
theorem dX11_partBy_4 : decode cX11_partBy 4 = .ok (.istore_n 3, 1) := by decide +kernel
theorem dX11_partBy_5 : decode cX11_partBy 5 = .ok (.iconst 0, 1) := by decide +kernel
theorem dX11_partBy_6 : decode cX11_partBy 6 = .ok (.istore 4, 2) := by decide +kernel
theorem dX11_partBy_8 : decode cX11_partBy 8 = .ok (.iload 4, 2) := by decide +kernel
theorem dX11_partBy_10 : decode cX11_partBy 10 = .ok (.aload_n 0, 1) := by decide +kernel
theorem dX11_partBy_11 : decode cX11_partBy 11 = .ok (.getfield 7, 3) := by decide +kernel
theorem dX11_partBy_14 : decode cX11_partBy 14 = .ok (.iconst 2, 1) := by decide +kernel
theorem dX11_partBy_15 : decode cX11_partBy 15 = .ok (.iaload, 1) := by decide +kernel
theorem dX11_partBy_16 : decode cX11_partBy 16 = .ok (.if_icmp .ge 53, 3) := by decide +kernel
theorem dX11_partBy_19 : decode cX11_partBy 19 = .ok (.aload_n 0, 1) := by decide +kernel
theorem dX11_partBy_20 : decode cX11_partBy 20 = .ok (.iload_n 2, 1) := by decide +kernel
theorem dX11_partBy_21 : decode cX11_partBy 21 = .ok (.iload 4, 2) := by decide +kernel
theorem dX11_partBy_23 : decode cX11_partBy 23 = .ok (.invokevirtual 236, 3) := by decide +kernel
theorem dX11_partBy_26 : decode cX11_partBy 26 = .ok (.ifCond .eq 37, 3) := by decide +kernel
theorem dX11_partBy_29 : decode cX11_partBy 29 = .ok (.iload_n 3, 1) := by decide +kernel
theorem dX11_partBy_30 : decode cX11_partBy 30 = .ok (.aload_n 0, 1) := by decide +kernel
theorem dX11_partBy_31 : decode cX11_partBy 31 = .ok (.aload_n 0, 1) := by decide +kernel
theorem dX11_partBy_32 : decode cX11_partBy 32 = .ok (.iload 4, 2) := by decide +kernel
theorem dX11_partBy_34 : decode cX11_partBy 34 = .ok (.invokevirtual 303, 3) := by decide +kernel
theorem dX11_partBy_37 : decode cX11_partBy 37 = .ok (.iload_n 1, 1) := by decide +kernel
theorem dX11_partBy_38 : decode cX11_partBy 38 = .ok (.invokevirtual 236, 3) := by decide +kernel
theorem dX11_partBy_41 : decode cX11_partBy 41 = .ok (.ifCond .eq 12, 3) := by decide +kernel
theorem dX11_partBy_44 : decode cX11_partBy 44 = .ok (.aload_n 0, 1) := by decide +kernel
theorem dX11_partBy_45 : decode cX11_partBy 45 = .ok (.iload 4, 2) := by decide +kernel
theorem dX11_partBy_47 : decode cX11_partBy 47 = .ok (.invokevirtual 303, 3) := by decide +kernel
theorem dX11_partBy_50 : decode cX11_partBy 50 = .ok (.goto 11, 3) := by decide +kernel
theorem dX11_partBy_53 : decode cX11_partBy 53 = .ok (.aload_n 0, 1) := by decide +kernel
theorem dX11_partBy_54 : decode cX11_partBy 54 = .ok (.iload 4, 2) := by decide +kernel
theorem dX11_partBy_56 : decode cX11_partBy 56 = .ok (.invokevirtual 303, 3) := by decide +kernel
theorem dX11_partBy_59 : decode cX11_partBy 59 = .ok (.iconst (-1), 1) := by decide +kernel
theorem dX11_partBy_60 : decode cX11_partBy 60 = .ok (.ixor, 1) := by decide +kernel
theorem dX11_partBy_61 : decode cX11_partBy 61 = .ok (.iand, 1) := by decide +kernel
theorem dX11_partBy_62 : decode cX11_partBy 62 = .ok (.istore_n 3, 1) := by decide +kernel
theorem dX11_partBy_63 : decode cX11_partBy 63 = .ok (.iinc 4 1, 3) := by decide +kernel
theorem dX11_partBy_66 : decode cX11_partBy 66 = .ok (.goto (-58), 3) := by decide +kernel
theorem dX11_partBy_69 : decode cX11_partBy 69 = .ok (.iload_n 3, 1) := by decide +kernel
theorem dX11_partBy_70 : decode cX11_partBy 70 = .ok (.ireturn, 1) := by decide +kernel
theorem dX11_isFirst_0 : decode cX11_isFirst 0 = .ok (.aload_n 0, 1) := by decide +kernel
theorem dX11_isFirst_1 : decode cX11_isFirst 1 = .ok (.iload_n 1, 1) := by decide +kernel
theorem dX11_isFirst_2 : decode cX11_isFirst 2 = .ok (.iload_n 2, 1) := by decide +kernel
theorem dX11_isFirst_3 : decode cX11_isFirst 3 = .ok (.invokevirtual 306, 3) := by decide +kernel
theorem dX11_isFirst_6 : decode cX11_isFirst 6 = .ok (.iconst 1, 1) := by decide +kernel
theorem dX11_isFirst_7 : decode cX11_isFirst 7 = .ok (.iload_n 1, 1) := by decide +kernel
theorem dX11_isFirst_8 : decode cX11_isFirst 8 = .ok (.ishl, 1) := by decide +kernel
theorem dX11_isFirst_9 : decode cX11_isFirst 9 = .ok (.iconst 1, 1) := by decide +kernel
theorem dX11_isFirst_10 : decode cX11_isFirst 10 = .ok (.isub, 1) := by decide +kernel
theorem dX11_isFirst_11 : decode cX11_isFirst 11 = .ok (.iand, 1) := by decide +kernel
theorem dX11_isFirst_12 : decode cX11_isFirst 12 = .ok (.ifCond .ne 7, 3) := by decide +kernel
theorem dX11_isFirst_15 : decode cX11_isFirst 15 = .ok (.iconst 1, 1) := by decide +kernel
theorem dX11_isFirst_16 : decode cX11_isFirst 16 = .ok (.goto 4, 3) := by decide +kernel
theorem dX11_isFirst_19 : decode cX11_isFirst 19 = .ok (.iconst 0, 1) := by decide +kernel
theorem dX11_isFirst_20 : decode cX11_isFirst 20 = .ok (.ireturn, 1) := by decide +kernel
theorem dX11_partsBy_0 : decode cX11_partsBy 0 = .ok (.iconst 0, 1) := by decide +kernel
theorem dX11_partsBy_1 : decode cX11_partsBy 1 = .ok (.istore_n 2, 1) := by decide +kernel
theorem dX11_partsBy_2 : decode cX11_partsBy 2 = .ok (.iconst 0, 1) := by decide +kernel
theorem dX11_partsBy_3 : decode cX11_partsBy 3 = .ok (.istore_n 3, 1) := by decide +kernel
theorem dX11_partsBy_4 : decode cX11_partsBy 4 = .ok (.iload_n 3, 1) := by decide +kernel
theorem dX11_partsBy_5 : decode cX11_partsBy 5 = .ok (.aload_n 0, 1) := by decide +kernel
theorem dX11_partsBy_6 : decode cX11_partsBy 6 = .ok (.getfield 7, 3) := by decide +kernel
theorem dX11_partsBy_9 : decode cX11_partsBy 9 = .ok (.iconst 1, 1) := by decide +kernel
theorem dX11_partsBy_10 : decode cX11_partsBy 10 = .ok (.iaload, 1) := by decide +kernel
theorem dX11_partsBy_11 : decode cX11_partsBy 11 = .ok (.if_icmp .ge 26, 3) := by decide +kernel
theorem dX11_partsBy_14 : decode cX11_partsBy 14 = .ok (.iload_n 2, 1) := by decide +kernel
theorem dX11_partsBy_15 : decode cX11_partsBy 15 = .ok (.aload_n 0, 1) := by decide +kernel
theorem dX11_partsBy_16 : decode cX11_partsBy 16 = .ok (.iload_n 3, 1) := by decide +kernel
theorem dX11_partsBy_17 : decode cX11_partsBy 17 = .ok (.iload_n 1, 1) := by decide +kernel
theorem dX11_partsBy_18 : decode cX11_partsBy 18 = .ok (.invokevirtual 309, 3) := by decide +kernel
theorem dX11_partsBy_21 : decode cX11_partsBy 21 = .ok (.ifCond .eq 7, 3) := by decide +kernel
theorem dX11_partsBy_24 : decode cX11_partsBy 24 = .ok (.iconst 1, 1) := by decide +kernel
theorem dX11_partsBy_25 : decode cX11_partsBy 25 = .ok (.goto 4, 3) := by decide +kernel
theorem dX11_partsBy_28 : decode cX11_partsBy 28 = .ok (.iconst 0, 1) := by decide +kernel
theorem dX11_partsBy_29 : decode cX11_partsBy 29 = .ok (.iadd, 1) := by decide +kernel
theorem dX11_partsBy_30 : decode cX11_partsBy 30 = .ok (.istore_n 2, 1) := by decide +kernel
theorem dX11_partsBy_31 : decode cX11_partsBy 31 = .ok (.iinc 3 1, 3) := by decide +kernel
theorem dX11_partsBy_34 : decode cX11_partsBy 34 = .ok (.goto (-30), 3) := by decide +kernel
theorem dX11_partsBy_37 : decode cX11_partsBy 37 = .ok (.iload_n 2, 1) := by decide +kernel
theorem dX11_partsBy_38 : decode cX11_partsBy 38 = .ok (.ireturn, 1) := by decide +kernel
theorem dX11_yieldBy_0 : decode cX11_yieldBy 0 = .ok (.aload_n 0, 1) := by decide +kernel
theorem dX11_yieldBy_1 : decode cX11_yieldBy 1 = .ok (.iload_n 2, 1) := by decide +kernel
theorem dX11_yieldBy_2 : decode cX11_yieldBy 2 = .ok (.iload_n 1, 1) := by decide +kernel
theorem dX11_yieldBy_3 : decode cX11_yieldBy 3 = .ok (.invokevirtual 236, 3) := by decide +kernel
theorem dX11_yieldBy_6 : decode cX11_yieldBy 6 = .ok (.ifCond .eq 5, 3) := by decide +kernel
theorem dX11_yieldBy_9 : decode cX11_yieldBy 9 = .ok (.iconst 0, 1) := by decide +kernel
theorem dX11_yieldBy_10 : decode cX11_yieldBy 10 = .ok (.ireturn, 1) := by decide +kernel
theorem dX11_yieldBy_11 : decode cX11_yieldBy 11 = .ok (.iconst 0, 1) := by decide +kernel
theorem dX11_yieldBy_12 : decode cX11_yieldBy 12 = .ok (.istore_n 3, 1) := by decide +kernel
theorem dX11_yieldBy_13 : decode cX11_yieldBy 13 = .ok (.iconst 0, 1) := by decide +kernel
theorem dX11_yieldBy_14 : decode cX11_yieldBy 14 = .ok (.istore 4, 2) := by decide +kernel
theorem dX11_yieldBy_16 : decode cX11_yieldBy 16 = .ok (.iload 4, 2) := by decide +kernel
theorem dX11_yieldBy_18 : decode cX11_yieldBy 18 = .ok (.aload_n 0, 1) := by decide +kernel
theorem dX11_yieldBy_19 : decode cX11_yieldBy 19 = .ok (.getfield 7, 3) := by decide +kernel
theorem dX11_yieldBy_22 : decode cX11_yieldBy 22 = .ok (.iconst 1, 1) := by decide +kernel
theorem dX11_yieldBy_23 : decode cX11_yieldBy 23 = .ok (.iaload, 1) := by decide +kernel
theorem dX11_yieldBy_24 : decode cX11_yieldBy 24 = .ok (.if_icmp .ge 64, 3) := by decide +kernel
theorem dX11_yieldBy_27 : decode cX11_yieldBy 27 = .ok (.aload_n 0, 1) := by decide +kernel
theorem dX11_yieldBy_28 : decode cX11_yieldBy 28 = .ok (.iload 4, 2) := by decide +kernel
theorem dX11_yieldBy_30 : decode cX11_yieldBy 30 = .ok (.iload_n 2, 1) := by decide +kernel
theorem dX11_yieldBy_31 : decode cX11_yieldBy 31 = .ok (.invokevirtual 309, 3) := by decide +kernel
theorem dX11_yieldBy_34 : decode cX11_yieldBy 34 = .ok (.ifCond .eq 13, 3) := by decide +kernel
theorem dX11_yieldBy_37 : decode cX11_yieldBy 37 = .ok (.aload_n 0, 1) := by decide +kernel
theorem dX11_yieldBy_38 : decode cX11_yieldBy 38 = .ok (.iload 4, 2) := by decide +kernel
theorem dX11_yieldBy_40 : decode cX11_yieldBy 40 = .ok (.iload_n 2, 1) := by decide +kernel
theorem dX11_yieldBy_41 : decode cX11_yieldBy 41 = .ok (.invokevirtual 306, 3) := by decide +kernel
theorem dX11_yieldBy_44 : decode cX11_yieldBy 44 = .ok (.goto 4, 3) := by decide +kernel
theorem dX11_yieldBy_47 : decode cX11_yieldBy 47 = .ok (.iconst 0, 1) := by decide +kernel
theorem dX11_yieldBy_48 : decode cX11_yieldBy 48 = .ok (.istore 5, 2) := by decide +kernel
theorem dX11_yieldBy_50 : decode cX11_yieldBy 50 = .ok (.iload_n 3, 1) := by decide +kernel
theorem dX11_yieldBy_51 : decode cX11_yieldBy 51 = .ok (.iconst 3, 1) := by decide +kernel
theorem dX11_yieldBy_52 : decode cX11_yieldBy 52 = .ok (.iload 5, 2) := by decide +kernel
theorem dX11_yieldBy_54 : decode cX11_yieldBy 54 = .ok (.aload_n 0, 1) := by decide +kernel
theorem dX11_yieldBy_55 : decode cX11_yieldBy 55 = .ok (.iload_n 1, 1) := by decide +kernel
theorem dX11_yieldBy_56 : decode cX11_yieldBy 56 = .ok (.invokevirtual 303, 3) := by decide +kernel
theorem dX11_yieldBy_59 : decode cX11_yieldBy 59 = .ok (.iand, 1) := by decide +kernel
theorem dX11_yieldBy_60 : decode cX11_yieldBy 60 = .ok (.invokestatic 312, 3) := by decide +kernel
theorem dX11_yieldBy_63 : decode cX11_yieldBy 63 = .ok (.iload 5, 2) := by decide +kernel
theorem dX11_yieldBy_65 : decode cX11_yieldBy 65 = .ok (.aload_n 0, 1) := by decide +kernel
theorem dX11_yieldBy_66 : decode cX11_yieldBy 66 = .ok (.iload_n 1, 1) := by decide +kernel
theorem dX11_yieldBy_67 : decode cX11_yieldBy 67 = .ok (.invokevirtual 303, 3) := by decide +kernel
theorem dX11_yieldBy_70 : decode cX11_yieldBy 70 = .ok (.iconst (-1), 1) := by decide +kernel
theorem dX11_yieldBy_71 : decode cX11_yieldBy 71 = .ok (.ixor, 1) := by decide +kernel
theorem dX11_yieldBy_72 : decode cX11_yieldBy 72 = .ok (.iand, 1) := by decide +kernel
theorem dX11_yieldBy_73 : decode cX11_yieldBy 73 = .ok (.invokestatic 312, 3) := by decide +kernel
theorem dX11_yieldBy_76 : decode cX11_yieldBy 76 = .ok (.invokestatic 154, 3) := by decide +kernel
theorem dX11_yieldBy_79 : decode cX11_yieldBy 79 = .ok (.imul, 1) := by decide +kernel
theorem dX11_yieldBy_80 : decode cX11_yieldBy 80 = .ok (.iadd, 1) := by decide +kernel
theorem dX11_yieldBy_81 : decode cX11_yieldBy 81 = .ok (.istore_n 3, 1) := by decide +kernel
theorem dX11_yieldBy_82 : decode cX11_yieldBy 82 = .ok (.iinc 4 1, 3) := by decide +kernel
theorem dX11_yieldBy_85 : decode cX11_yieldBy 85 = .ok (.goto (-69), 3) := by decide +kernel
theorem dX11_yieldBy_88 : decode cX11_yieldBy 88 = .ok (.iload_n 3, 1) := by decide +kernel
theorem dX11_yieldBy_89 : decode cX11_yieldBy 89 = .ok (.ireturn, 1) := by decide +kernel
theorem dX11_together_0 : decode cX11_together 0 = .ok (.iconst 0, 1) := by decide +kernel
theorem dX11_together_1 : decode cX11_together 1 = .ok (.istore_n 2, 1) := by decide +kernel
theorem dX11_together_2 : decode cX11_together 2 = .ok (.iload_n 1, 1) := by decide +kernel
theorem dX11_together_3 : decode cX11_together 3 = .ok (.iconst 2, 1) := by decide +kernel
theorem dX11_together_4 : decode cX11_together 4 = .ok (.if_icmp .ne 38, 3) := by decide +kernel
theorem dX11_together_7 : decode cX11_together 7 = .ok (.iconst 0, 1) := by decide +kernel
theorem dX11_together_8 : decode cX11_together 8 = .ok (.istore_n 3, 1) := by decide +kernel
theorem dX11_together_9 : decode cX11_together 9 = .ok (.iload_n 3, 1) := by decide +kernel
theorem dX11_together_10 : decode cX11_together 10 = .ok (.aload_n 0, 1) := by decide +kernel
theorem dX11_together_11 : decode cX11_together 11 = .ok (.getfield 7, 3) := by decide +kernel
theorem dX11_together_14 : decode cX11_together 14 = .ok (.iconst 3, 1) := by decide +kernel
theorem dX11_together_15 : decode cX11_together 15 = .ok (.iaload, 1) := by decide +kernel
theorem dX11_together_16 : decode cX11_together 16 = .ok (.if_icmp .ge 23, 3) := by decide +kernel
theorem dX11_together_19 : decode cX11_together 19 = .ok (.iload_n 2, 1) := by decide +kernel
theorem dX11_together_20 : decode cX11_together 20 = .ok (.aload_n 0, 1) := by decide +kernel
theorem dX11_together_21 : decode cX11_together 21 = .ok (.getfield 7, 3) := by decide +kernel
theorem dX11_together_24 : decode cX11_together 24 = .ok (.iload_n 3, 1) := by decide +kernel
theorem dX11_together_25 : decode cX11_together 25 = .ok (.invokestatic 242, 3) := by decide +kernel
theorem dX11_together_28 : decode cX11_together 28 = .ok (.iconst 1, 1) := by decide +kernel
theorem dX11_together_29 : decode cX11_together 29 = .ok (.iadd, 1) := by decide +kernel
theorem dX11_together_30 : decode cX11_together 30 = .ok (.iaload, 1) := by decide +kernel
theorem dX11_together_31 : decode cX11_together 31 = .ok (.iadd, 1) := by decide +kernel
theorem dX11_together_32 : decode cX11_together 32 = .ok (.istore_n 2, 1) := by decide +kernel
theorem dX11_together_33 : decode cX11_together 33 = .ok (.iinc 3 1, 3) := by decide +kernel
theorem dX11_together_36 : decode cX11_together 36 = .ok (.goto (-27), 3) := by decide +kernel
theorem dX11_together_39 : decode cX11_together 39 = .ok (.goto 35, 3) := by decide +kernel
theorem dX11_together_42 : decode cX11_together 42 = .ok (.iconst 0, 1) := by decide +kernel
theorem dX11_together_43 : decode cX11_together 43 = .ok (.istore_n 3, 1) := by decide +kernel
theorem dX11_together_44 : decode cX11_together 44 = .ok (.iload_n 3, 1) := by decide +kernel
theorem dX11_together_45 : decode cX11_together 45 = .ok (.aload_n 0, 1) := by decide +kernel
theorem dX11_together_46 : decode cX11_together 46 = .ok (.getfield 7, 3) := by decide +kernel
theorem dX11_together_49 : decode cX11_together 49 = .ok (.iconst 0, 1) := by decide +kernel
theorem dX11_together_50 : decode cX11_together 50 = .ok (.iaload, 1) := by decide +kernel
theorem dX11_together_51 : decode cX11_together 51 = .ok (.if_icmp .ge 23, 3) := by decide +kernel
theorem dX11_together_54 : decode cX11_together 54 = .ok (.iload_n 2, 1) := by decide +kernel
theorem dX11_together_55 : decode cX11_together 55 = .ok (.aload_n 0, 1) := by decide +kernel
theorem dX11_together_56 : decode cX11_together 56 = .ok (.getfield 7, 3) := by decide +kernel
theorem dX11_together_59 : decode cX11_together 59 = .ok (.iload_n 3, 1) := by decide +kernel
theorem dX11_together_60 : decode cX11_together 60 = .ok (.invokestatic 216, 3) := by decide +kernel
theorem dX11_together_63 : decode cX11_together 63 = .ok (.iload_n 1, 1) := by decide +kernel
theorem dX11_together_64 : decode cX11_together 64 = .ok (.iadd, 1) := by decide +kernel
theorem dX11_together_65 : decode cX11_together 65 = .ok (.iaload, 1) := by decide +kernel
theorem dX11_together_66 : decode cX11_together 66 = .ok (.iadd, 1) := by decide +kernel
theorem dX11_together_67 : decode cX11_together 67 = .ok (.istore_n 2, 1) := by decide +kernel
theorem dX11_together_68 : decode cX11_together 68 = .ok (.iinc 3 1, 3) := by decide +kernel
theorem dX11_together_71 : decode cX11_together 71 = .ok (.goto (-27), 3) := by decide +kernel
theorem dX11_together_74 : decode cX11_together 74 = .ok (.iload_n 2, 1) := by decide +kernel
theorem dX11_together_75 : decode cX11_together 75 = .ok (.ireturn, 1) := by decide +kernel
theorem dX11_told_0 : decode cX11_told 0 = .ok (.iload_n 1, 1) := by decide +kernel
theorem dX11_told_1 : decode cX11_told 1 = .ok (.ifCond .lt 9, 3) := by decide +kernel
theorem dX11_told_4 : decode cX11_told 4 = .ok (.iload_n 1, 1) := by decide +kernel
theorem dX11_told_5 : decode cX11_told 5 = .ok (.bipush 10, 2) := by decide +kernel
theorem dX11_told_7 : decode cX11_told 7 = .ok (.if_icmp .le 9, 3) := by decide +kernel
theorem dX11_told_10 : decode cX11_told 10 = .ok (.aload_n 0, 1) := by decide +kernel
theorem dX11_told_11 : decode cX11_told 11 = .ok (.iconst 1, 1) := by decide +kernel
theorem dX11_told_12 : decode cX11_told 12 = .ok (.invokevirtual 99, 3) := by decide +kernel
theorem dX11_told_15 : decode cX11_told 15 = .ok (.ireturn, 1) := by decide +kernel
theorem dX11_told_16 : decode cX11_told 16 = .ok (.iload_n 1, 1) := by decide +kernel
theorem dX11_told_17 : decode cX11_told 17 = .ok (.bipush 7, 2) := by decide +kernel
theorem dX11_told_19 : decode cX11_told 19 = .ok (.if_icmp .ge 14, 3) := by decide +kernel
theorem dX11_told_22 : decode cX11_told 22 = .ok (.aload_n 0, 1) := by decide +kernel
theorem dX11_told_23 : decode cX11_told 23 = .ok (.aload_n 0, 1) := by decide +kernel
theorem dX11_told_24 : decode cX11_told 24 = .ok (.getfield 7, 3) := by decide +kernel
theorem dX11_told_27 : decode cX11_told 27 = .ok (.iload_n 1, 1) := by decide +kernel
theorem dX11_told_28 : decode cX11_told 28 = .ok (.iaload, 1) := by decide +kernel
theorem dX11_told_29 : decode cX11_told 29 = .ok (.invokevirtual 103, 3) := by decide +kernel
theorem dX11_told_32 : decode cX11_told 32 = .ok (.ireturn, 1) := by decide +kernel
theorem dX11_told_33 : decode cX11_told 33 = .ok (.aload_n 0, 1) := by decide +kernel
theorem dX11_told_34 : decode cX11_told 34 = .ok (.iload_n 1, 1) := by decide +kernel
theorem dX11_told_35 : decode cX11_told 35 = .ok (.bipush 10, 2) := by decide +kernel
theorem dX11_told_37 : decode cX11_told 37 = .ok (.if_icmp .ne 17, 3) := by decide +kernel
theorem dX11_told_40 : decode cX11_told 40 = .ok (.aload_n 0, 1) := by decide +kernel
theorem dX11_told_41 : decode cX11_told 41 = .ok (.aload_n 0, 1) := by decide +kernel
theorem dX11_told_42 : decode cX11_told 42 = .ok (.getfield 7, 3) := by decide +kernel
theorem dX11_told_45 : decode cX11_told 45 = .ok (.bipush 6, 2) := by decide +kernel
theorem dX11_told_47 : decode cX11_told 47 = .ok (.iaload, 1) := by decide +kernel
theorem dX11_told_48 : decode cX11_told 48 = .ok (.invokevirtual 315, 3) := by decide +kernel
theorem dX11_told_51 : decode cX11_told 51 = .ok (.goto 11, 3) := by decide +kernel
theorem dX11_told_54 : decode cX11_told 54 = .ok (.aload_n 0, 1) := by decide +kernel
theorem dX11_told_55 : decode cX11_told 55 = .ok (.iload_n 1, 1) := by decide +kernel
theorem dX11_told_56 : decode cX11_told 56 = .ok (.bipush 7, 2) := by decide +kernel
theorem dX11_told_58 : decode cX11_told 58 = .ok (.isub, 1) := by decide +kernel
theorem dX11_told_59 : decode cX11_told 59 = .ok (.invokevirtual 318, 3) := by decide +kernel
theorem dX11_told_62 : decode cX11_told 62 = .ok (.invokevirtual 103, 3) := by decide +kernel
theorem dX11_told_65 : decode cX11_told 65 = .ok (.ireturn, 1) := by decide +kernel
theorem dX11_bed_0 : decode cX11_bed 0 = .ok (.aload_n 0, 1) := by decide +kernel
theorem dX11_bed_1 : decode cX11_bed 1 = .ok (.iload_n 1, 1) := by decide +kernel
theorem dX11_bed_2 : decode cX11_bed 2 = .ok (.invokevirtual 321, 3) := by decide +kernel
theorem dX11_bed_5 : decode cX11_bed 5 = .ok (.ifCond .eq 12, 3) := by decide +kernel
theorem dX11_bed_8 : decode cX11_bed 8 = .ok (.iload_n 2, 1) := by decide +kernel
theorem dX11_bed_9 : decode cX11_bed 9 = .ok (.ifCond .lt 8, 3) := by decide +kernel
theorem dX11_bed_12 : decode cX11_bed 12 = .ok (.iload_n 2, 1) := by decide +kernel
theorem dX11_bed_13 : decode cX11_bed 13 = .ok (.iconst 1, 1) := by decide +kernel
theorem dX11_bed_14 : decode cX11_bed 14 = .ok (.if_icmp .le 9, 3) := by decide +kernel
theorem dX11_bed_17 : decode cX11_bed 17 = .ok (.aload_n 0, 1) := by decide +kernel
theorem dX11_bed_18 : decode cX11_bed 18 = .ok (.iconst 1, 1) := by decide +kernel
theorem dX11_bed_19 : decode cX11_bed 19 = .ok (.invokevirtual 99, 3) := by decide +kernel
theorem dX11_bed_22 : decode cX11_bed 22 = .ok (.ireturn, 1) := by decide +kernel
theorem dX11_bed_23 : decode cX11_bed 23 = .ok (.aload_n 0, 1) := by decide +kernel
theorem dX11_bed_24 : decode cX11_bed 24 = .ok (.aload_n 0, 1) := by decide +kernel
theorem dX11_bed_25 : decode cX11_bed 25 = .ok (.getfield 7, 3) := by decide +kernel
theorem dX11_bed_28 : decode cX11_bed 28 = .ok (.iload_n 1, 1) := by decide +kernel
theorem dX11_bed_29 : decode cX11_bed 29 = .ok (.invokestatic 216, 3) := by decide +kernel
theorem dX11_bed_32 : decode cX11_bed 32 = .ok (.iload_n 2, 1) := by decide +kernel
theorem dX11_bed_33 : decode cX11_bed 33 = .ok (.iadd, 1) := by decide +kernel
theorem dX11_bed_34 : decode cX11_bed 34 = .ok (.iaload, 1) := by decide +kernel
theorem dX11_bed_35 : decode cX11_bed 35 = .ok (.invokevirtual 103, 3) := by decide +kernel
theorem dX11_bed_38 : decode cX11_bed 38 = .ok (.ireturn, 1) := by decide +kernel
theorem dX11_weight_0 : decode cX11_weight 0 = .ok (.aload_n 0, 1) := by decide +kernel
theorem dX11_weight_1 : decode cX11_weight 1 = .ok (.iload_n 1, 1) := by decide +kernel
theorem dX11_weight_2 : decode cX11_weight 2 = .ok (.invokevirtual 324, 3) := by decide +kernel
theorem dX11_weight_5 : decode cX11_weight 5 = .ok (.ifCond .ne 9, 3) := by decide +kernel
theorem dX11_weight_8 : decode cX11_weight 8 = .ok (.aload_n 0, 1) := by decide +kernel
theorem dX11_weight_9 : decode cX11_weight 9 = .ok (.iconst 1, 1) := by decide +kernel
theorem dX11_weight_10 : decode cX11_weight 10 = .ok (.invokevirtual 99, 3) := by decide +kernel
theorem dX11_weight_13 : decode cX11_weight 13 = .ok (.ireturn, 1) := by decide +kernel
theorem dX11_weight_14 : decode cX11_weight 14 = .ok (.aload_n 0, 1) := by decide +kernel
theorem dX11_weight_15 : decode cX11_weight 15 = .ok (.aload_n 0, 1) := by decide +kernel
theorem dX11_weight_16 : decode cX11_weight 16 = .ok (.getfield 7, 3) := by decide +kernel
theorem dX11_weight_19 : decode cX11_weight 19 = .ok (.bipush 22, 2) := by decide +kernel
theorem dX11_weight_21 : decode cX11_weight 21 = .ok (.iload_n 1, 1) := by decide +kernel
theorem dX11_weight_22 : decode cX11_weight 22 = .ok (.iadd, 1) := by decide +kernel
theorem dX11_weight_23 : decode cX11_weight 23 = .ok (.iaload, 1) := by decide +kernel
theorem dX11_weight_24 : decode cX11_weight 24 = .ok (.invokevirtual 103, 3) := by decide +kernel
theorem dX11_weight_27 : decode cX11_weight 27 = .ok (.ireturn, 1) := by decide +kernel
theorem dX11_claim_0 : decode cX11_claim 0 = .ok (.aload_n 0, 1) := by decide +kernel
theorem dX11_claim_1 : decode cX11_claim 1 = .ok (.iload_n 1, 1) := by decide +kernel
theorem dX11_claim_2 : decode cX11_claim 2 = .ok (.invokevirtual 327, 3) := by decide +kernel
theorem dX11_claim_5 : decode cX11_claim 5 = .ok (.ifCond .eq 12, 3) := by decide +kernel
theorem dX11_claim_8 : decode cX11_claim 8 = .ok (.iload_n 2, 1) := by decide +kernel
theorem dX11_claim_9 : decode cX11_claim 9 = .ok (.ifCond .lt 8, 3) := by decide +kernel
theorem dX11_claim_12 : decode cX11_claim 12 = .ok (.iload_n 2, 1) := by decide +kernel
theorem dX11_claim_13 : decode cX11_claim 13 = .ok (.iconst 3, 1) := by decide +kernel
theorem dX11_claim_14 : decode cX11_claim 14 = .ok (.if_icmp .le 9, 3) := by decide +kernel
theorem dX11_claim_17 : decode cX11_claim 17 = .ok (.aload_n 0, 1) := by decide +kernel
theorem dX11_claim_18 : decode cX11_claim 18 = .ok (.iconst 1, 1) := by decide +kernel
theorem dX11_claim_19 : decode cX11_claim 19 = .ok (.invokevirtual 99, 3) := by decide +kernel
theorem dX11_claim_22 : decode cX11_claim 22 = .ok (.ireturn, 1) := by decide +kernel
theorem dX11_claim_23 : decode cX11_claim 23 = .ok (.aload_n 0, 1) := by decide +kernel
theorem dX11_claim_24 : decode cX11_claim 24 = .ok (.iload_n 2, 1) := by decide +kernel
theorem dX11_claim_25 : decode cX11_claim 25 = .ok (.iconst 3, 1) := by decide +kernel
theorem dX11_claim_26 : decode cX11_claim 26 = .ok (.if_icmp .ne 18, 3) := by decide +kernel
theorem dX11_claim_29 : decode cX11_claim 29 = .ok (.aload_n 0, 1) := by decide +kernel
theorem dX11_claim_30 : decode cX11_claim 30 = .ok (.iload_n 1, 1) := by decide +kernel
theorem dX11_claim_31 : decode cX11_claim 31 = .ok (.aload_n 0, 1) := by decide +kernel
theorem dX11_claim_32 : decode cX11_claim 32 = .ok (.getfield 7, 3) := by decide +kernel
theorem dX11_claim_35 : decode cX11_claim 35 = .ok (.bipush 6, 2) := by decide +kernel
theorem dX11_claim_37 : decode cX11_claim 37 = .ok (.iaload, 1) := by decide +kernel
theorem dX11_claim_38 : decode cX11_claim 38 = .ok (.invokevirtual 330, 3) := by decide +kernel
theorem dX11_claim_41 : decode cX11_claim 41 = .ok (.goto 14, 3) := by decide +kernel
theorem dX11_claim_44 : decode cX11_claim 44 = .ok (.aload_n 0, 1) := by decide +kernel
theorem dX11_claim_45 : decode cX11_claim 45 = .ok (.getfield 7, 3) := by decide +kernel
theorem dX11_claim_48 : decode cX11_claim 48 = .ok (.iload_n 1, 1) := by decide +kernel
theorem dX11_claim_49 : decode cX11_claim 49 = .ok (.invokestatic 230, 3) := by decide +kernel
theorem dX11_claim_52 : decode cX11_claim 52 = .ok (.iload_n 2, 1) := by decide +kernel
theorem dX11_claim_53 : decode cX11_claim 53 = .ok (.iadd, 1) := by decide +kernel
theorem dX11_claim_54 : decode cX11_claim 54 = .ok (.iaload, 1) := by decide +kernel
theorem dX11_claim_55 : decode cX11_claim 55 = .ok (.invokevirtual 103, 3) := by decide +kernel
theorem dX11_claim_58 : decode cX11_claim 58 = .ok (.ireturn, 1) := by decide +kernel
theorem dX11_scholar_0 : decode cX11_scholar 0 = .ok (.aload_n 0, 1) := by decide +kernel
theorem dX11_scholar_1 : decode cX11_scholar 1 = .ok (.iload_n 1, 1) := by decide +kernel
theorem dX11_scholar_2 : decode cX11_scholar 2 = .ok (.invokevirtual 333, 3) := by decide +kernel
theorem dX11_scholar_5 : decode cX11_scholar 5 = .ok (.ifCond .eq 12, 3) := by decide +kernel
theorem dX11_scholar_8 : decode cX11_scholar 8 = .ok (.iload_n 2, 1) := by decide +kernel
theorem dX11_scholar_9 : decode cX11_scholar 9 = .ok (.ifCond .lt 8, 3) := by decide +kernel
theorem dX11_scholar_12 : decode cX11_scholar 12 = .ok (.iload_n 2, 1) := by decide +kernel
theorem dX11_scholar_13 : decode cX11_scholar 13 = .ok (.iconst 1, 1) := by decide +kernel
theorem dX11_scholar_14 : decode cX11_scholar 14 = .ok (.if_icmp .le 9, 3) := by decide +kernel
theorem dX11_scholar_17 : decode cX11_scholar 17 = .ok (.aload_n 0, 1) := by decide +kernel
theorem dX11_scholar_18 : decode cX11_scholar 18 = .ok (.iconst 1, 1) := by decide +kernel
theorem dX11_scholar_19 : decode cX11_scholar 19 = .ok (.invokevirtual 99, 3) := by decide +kernel
theorem dX11_scholar_22 : decode cX11_scholar 22 = .ok (.ireturn, 1) := by decide +kernel
theorem dX11_scholar_23 : decode cX11_scholar 23 = .ok (.aload_n 0, 1) := by decide +kernel
theorem dX11_scholar_24 : decode cX11_scholar 24 = .ok (.aload_n 0, 1) := by decide +kernel
theorem dX11_scholar_25 : decode cX11_scholar 25 = .ok (.getfield 7, 3) := by decide +kernel
theorem dX11_scholar_28 : decode cX11_scholar 28 = .ok (.iload_n 1, 1) := by decide +kernel
theorem dX11_scholar_29 : decode cX11_scholar 29 = .ok (.invokestatic 242, 3) := by decide +kernel
theorem dX11_scholar_32 : decode cX11_scholar 32 = .ok (.iload_n 2, 1) := by decide +kernel
theorem dX11_scholar_33 : decode cX11_scholar 33 = .ok (.iadd, 1) := by decide +kernel
theorem dX11_scholar_34 : decode cX11_scholar 34 = .ok (.iaload, 1) := by decide +kernel
theorem dX11_scholar_35 : decode cX11_scholar 35 = .ok (.invokevirtual 103, 3) := by decide +kernel
theorem dX11_scholar_38 : decode cX11_scholar 38 = .ok (.ireturn, 1) := by decide +kernel
theorem dX11_makes_0 : decode cX11_makes 0 = .ok (.aload_n 0, 1) := by decide +kernel
theorem dX11_makes_1 : decode cX11_makes 1 = .ok (.aload_n 0, 1) := by decide +kernel
theorem dX11_makes_2 : decode cX11_makes 2 = .ok (.getfield 7, 3) := by decide +kernel
theorem dX11_makes_5 : decode cX11_makes 5 = .ok (.bipush 6, 2) := by decide +kernel
theorem dX11_makes_7 : decode cX11_makes 7 = .ok (.iaload, 1) := by decide +kernel
theorem dX11_makes_8 : decode cX11_makes 8 = .ok (.iload_n 1, 1) := by decide +kernel
theorem dX11_makes_9 : decode cX11_makes 9 = .ok (.invokevirtual 236, 3) := by decide +kernel
theorem dX11_makes_12 : decode cX11_makes 12 = .ok (.ifCond .eq 5, 3) := by decide +kernel
theorem dX11_makes_15 : decode cX11_makes 15 = .ok (.iconst (-1), 1) := by decide +kernel
theorem dX11_makes_16 : decode cX11_makes 16 = .ok (.ireturn, 1) := by decide +kernel
theorem dX11_makes_17 : decode cX11_makes 17 = .ok (.aload_n 0, 1) := by decide +kernel
theorem dX11_makes_18 : decode cX11_makes 18 = .ok (.iload_n 1, 1) := by decide +kernel
theorem dX11_makes_19 : decode cX11_makes 19 = .ok (.aload_n 0, 1) := by decide +kernel
theorem dX11_makes_20 : decode cX11_makes 20 = .ok (.getfield 7, 3) := by decide +kernel
theorem dX11_makes_23 : decode cX11_makes 23 = .ok (.bipush 6, 2) := by decide +kernel
theorem dX11_makes_25 : decode cX11_makes 25 = .ok (.iaload, 1) := by decide +kernel
theorem dX11_makes_26 : decode cX11_makes 26 = .ok (.invokevirtual 330, 3) := by decide +kernel
theorem dX11_makes_29 : decode cX11_makes 29 = .ok (.istore_n 2, 1) := by decide +kernel
theorem dX11_makes_30 : decode cX11_makes 30 = .ok (.aload_n 0, 1) := by decide +kernel
theorem dX11_makes_31 : decode cX11_makes 31 = .ok (.getfield 7, 3) := by decide +kernel
theorem dX11_makes_34 : decode cX11_makes 34 = .ok (.iload_n 1, 1) := by decide +kernel
theorem dX11_makes_35 : decode cX11_makes 35 = .ok (.invokestatic 230, 3) := by decide +kernel
theorem dX11_makes_38 : decode cX11_makes 38 = .ok (.iaload, 1) := by decide +kernel
theorem dX11_makes_39 : decode cX11_makes 39 = .ok (.invokestatic 216, 3) := by decide +kernel
theorem dX11_makes_42 : decode cX11_makes 42 = .ok (.istore_n 3, 1) := by decide +kernel
theorem dX11_makes_43 : decode cX11_makes 43 = .ok (.aload_n 0, 1) := by decide +kernel
theorem dX11_makes_44 : decode cX11_makes 44 = .ok (.getfield 7, 3) := by decide +kernel
theorem dX11_makes_47 : decode cX11_makes 47 = .ok (.bipush 6, 2) := by decide +kernel
theorem dX11_makes_49 : decode cX11_makes 49 = .ok (.dup2, 1) := by decide +kernel
theorem dX11_makes_50 : decode cX11_makes 50 = .ok (.iaload, 1) := by decide +kernel
theorem dX11_makes_51 : decode cX11_makes 51 = .ok (.iconst 1, 1) := by decide +kernel
theorem dX11_makes_52 : decode cX11_makes 52 = .ok (.iload_n 1, 1) := by decide +kernel
theorem dX11_makes_53 : decode cX11_makes 53 = .ok (.ishl, 1) := by decide +kernel
theorem dX11_makes_54 : decode cX11_makes 54 = .ok (.ior, 1) := by decide +kernel
theorem dX11_makes_55 : decode cX11_makes 55 = .ok (.iastore, 1) := by decide +kernel
theorem dX11_makes_56 : decode cX11_makes 56 = .ok (.aload_n 0, 1) := by decide +kernel
theorem dX11_makes_57 : decode cX11_makes 57 = .ok (.getfield 7, 3) := by decide +kernel
theorem dX11_makes_60 : decode cX11_makes 60 = .ok (.iload_n 3, 1) := by decide +kernel
theorem dX11_makes_61 : decode cX11_makes 61 = .ok (.sipush 9999, 3) := by decide +kernel
theorem dX11_makes_64 : decode cX11_makes 64 = .ok (.aload_n 0, 1) := by decide +kernel
theorem dX11_makes_65 : decode cX11_makes 65 = .ok (.getfield 7, 3) := by decide +kernel
theorem dX11_makes_68 : decode cX11_makes 68 = .ok (.iload_n 3, 1) := by decide +kernel
theorem dX11_makes_69 : decode cX11_makes 69 = .ok (.iaload, 1) := by decide +kernel
theorem dX11_makes_70 : decode cX11_makes 70 = .ok (.iload_n 2, 1) := by decide +kernel
theorem dX11_makes_71 : decode cX11_makes 71 = .ok (.iadd, 1) := by decide +kernel
theorem dX11_makes_72 : decode cX11_makes 72 = .ok (.invokestatic 154, 3) := by decide +kernel
theorem dX11_makes_75 : decode cX11_makes 75 = .ok (.iastore, 1) := by decide +kernel
theorem dX11_makes_76 : decode cX11_makes 76 = .ok (.iload_n 2, 1) := by decide +kernel
theorem dX11_makes_77 : decode cX11_makes 77 = .ok (.ireturn, 1) := by decide +kernel
theorem dX11_make_0 : decode cX11_make 0 = .ok (.aload_n 0, 1) := by decide +kernel
theorem dX11_make_1 : decode cX11_make 1 = .ok (.iload_n 1, 1) := by decide +kernel
theorem dX11_make_2 : decode cX11_make 2 = .ok (.invokevirtual 327, 3) := by decide +kernel
theorem dX11_make_5 : decode cX11_make 5 = .ok (.ifCond .ne 9, 3) := by decide +kernel
theorem dX11_make_8 : decode cX11_make 8 = .ok (.aload_n 0, 1) := by decide +kernel
theorem dX11_make_9 : decode cX11_make 9 = .ok (.iconst 1, 1) := by decide +kernel
theorem dX11_make_10 : decode cX11_make 10 = .ok (.invokevirtual 99, 3) := by decide +kernel
theorem dX11_make_13 : decode cX11_make 13 = .ok (.ireturn, 1) := by decide +kernel
theorem dX11_make_14 : decode cX11_make 14 = .ok (.aload_n 0, 1) := by decide +kernel
theorem dX11_make_15 : decode cX11_make 15 = .ok (.iload_n 1, 1) := by decide +kernel
theorem dX11_make_16 : decode cX11_make 16 = .ok (.invokevirtual 336, 3) := by decide +kernel
theorem dX11_make_19 : decode cX11_make 19 = .ok (.istore_n 2, 1) := by decide +kernel
theorem dX11_make_20 : decode cX11_make 20 = .ok (.iload_n 2, 1) := by decide +kernel
theorem dX11_make_21 : decode cX11_make 21 = .ok (.iconst (-1), 1) := by decide +kernel
theorem dX11_make_22 : decode cX11_make 22 = .ok (.if_icmp .ne 12, 3) := by decide +kernel
theorem dX11_make_25 : decode cX11_make 25 = .ok (.aload_n 0, 1) := by decide +kernel
theorem dX11_make_26 : decode cX11_make 26 = .ok (.bipush 7, 2) := by decide +kernel
theorem dX11_make_28 : decode cX11_make 28 = .ok (.invokevirtual 99, 3) := by decide +kernel
theorem dX11_make_31 : decode cX11_make 31 = .ok (.goto 8, 3) := by decide +kernel
theorem dX11_make_34 : decode cX11_make 34 = .ok (.aload_n 0, 1) := by decide +kernel
theorem dX11_make_35 : decode cX11_make 35 = .ok (.iload_n 2, 1) := by decide +kernel
theorem dX11_make_36 : decode cX11_make 36 = .ok (.invokevirtual 103, 3) := by decide +kernel
theorem dX11_make_39 : decode cX11_make 39 = .ok (.ireturn, 1) := by decide +kernel
theorem dX11_recant_0 : decode cX11_recant 0 = .ok (.aload_n 0, 1) := by decide +kernel
theorem dX11_recant_1 : decode cX11_recant 1 = .ok (.iload_n 1, 1) := by decide +kernel
theorem dX11_recant_2 : decode cX11_recant 2 = .ok (.invokevirtual 327, 3) := by decide +kernel
theorem dX11_recant_5 : decode cX11_recant 5 = .ok (.ifCond .ne 9, 3) := by decide +kernel
theorem dX11_recant_8 : decode cX11_recant 8 = .ok (.aload_n 0, 1) := by decide +kernel
theorem dX11_recant_9 : decode cX11_recant 9 = .ok (.iconst 1, 1) := by decide +kernel
theorem dX11_recant_10 : decode cX11_recant 10 = .ok (.invokevirtual 99, 3) := by decide +kernel
theorem dX11_recant_13 : decode cX11_recant 13 = .ok (.ireturn, 1) := by decide +kernel
theorem dX11_recant_14 : decode cX11_recant 14 = .ok (.aload_n 0, 1) := by decide +kernel
theorem dX11_recant_15 : decode cX11_recant 15 = .ok (.aload_n 0, 1) := by decide +kernel
theorem dX11_recant_16 : decode cX11_recant 16 = .ok (.getfield 7, 3) := by decide +kernel
theorem dX11_recant_19 : decode cX11_recant 19 = .ok (.bipush 6, 2) := by decide +kernel
theorem dX11_recant_21 : decode cX11_recant 21 = .ok (.iaload, 1) := by decide +kernel
theorem dX11_recant_22 : decode cX11_recant 22 = .ok (.iload_n 1, 1) := by decide +kernel
theorem dX11_recant_23 : decode cX11_recant 23 = .ok (.invokevirtual 236, 3) := by decide +kernel
theorem dX11_recant_26 : decode cX11_recant 26 = .ok (.ifCond .ne 10, 3) := by decide +kernel
theorem dX11_recant_29 : decode cX11_recant 29 = .ok (.aload_n 0, 1) := by decide +kernel
theorem dX11_recant_30 : decode cX11_recant 30 = .ok (.bipush 7, 2) := by decide +kernel
theorem dX11_recant_32 : decode cX11_recant 32 = .ok (.invokevirtual 99, 3) := by decide +kernel
theorem dX11_recant_35 : decode cX11_recant 35 = .ok (.ireturn, 1) := by decide +kernel
theorem dX11_recant_36 : decode cX11_recant 36 = .ok (.aload_n 0, 1) := by decide +kernel
theorem dX11_recant_37 : decode cX11_recant 37 = .ok (.getfield 7, 3) := by decide +kernel
theorem dX11_recant_40 : decode cX11_recant 40 = .ok (.bipush 6, 2) := by decide +kernel
theorem dX11_recant_42 : decode cX11_recant 42 = .ok (.dup2, 1) := by decide +kernel
theorem dX11_recant_43 : decode cX11_recant 43 = .ok (.iaload, 1) := by decide +kernel
theorem dX11_recant_44 : decode cX11_recant 44 = .ok (.iconst 1, 1) := by decide +kernel
theorem dX11_recant_45 : decode cX11_recant 45 = .ok (.iload_n 1, 1) := by decide +kernel
theorem dX11_recant_46 : decode cX11_recant 46 = .ok (.ishl, 1) := by decide +kernel
theorem dX11_recant_47 : decode cX11_recant 47 = .ok (.iconst (-1), 1) := by decide +kernel
theorem dX11_recant_48 : decode cX11_recant 48 = .ok (.ixor, 1) := by decide +kernel
theorem dX11_recant_49 : decode cX11_recant 49 = .ok (.iand, 1) := by decide +kernel
theorem dX11_recant_50 : decode cX11_recant 50 = .ok (.iastore, 1) := by decide +kernel
theorem dX11_recant_51 : decode cX11_recant 51 = .ok (.aload_n 0, 1) := by decide +kernel
theorem dX11_recant_52 : decode cX11_recant 52 = .ok (.aload_n 0, 1) := by decide +kernel
theorem dX11_recant_53 : decode cX11_recant 53 = .ok (.getfield 7, 3) := by decide +kernel
theorem dX11_recant_56 : decode cX11_recant 56 = .ok (.bipush 6, 2) := by decide +kernel
theorem dX11_recant_58 : decode cX11_recant 58 = .ok (.iaload, 1) := by decide +kernel
theorem dX11_recant_59 : decode cX11_recant 59 = .ok (.invokestatic 312, 3) := by decide +kernel
theorem dX11_recant_62 : decode cX11_recant 62 = .ok (.invokevirtual 103, 3) := by decide +kernel
theorem dX11_recant_65 : decode cX11_recant 65 = .ok (.ireturn, 1) := by decide +kernel
theorem dX11_forgets_0 : decode cX11_forgets 0 = .ok (.aload_n 0, 1) := by decide +kernel
theorem dX11_forgets_1 : decode cX11_forgets 1 = .ok (.getfield 7, 3) := by decide +kernel
theorem dX11_forgets_4 : decode cX11_forgets 4 = .ok (.bipush 6, 2) := by decide +kernel
theorem dX11_forgets_6 : decode cX11_forgets 6 = .ok (.iaload, 1) := by decide +kernel
theorem dX11_forgets_7 : decode cX11_forgets 7 = .ok (.invokestatic 312, 3) := by decide +kernel
theorem dX11_forgets_10 : decode cX11_forgets 10 = .ok (.istore_n 1, 1) := by decide +kernel
theorem dX11_forgets_11 : decode cX11_forgets 11 = .ok (.aload_n 0, 1) := by decide +kernel
theorem dX11_forgets_12 : decode cX11_forgets 12 = .ok (.getfield 7, 3) := by decide +kernel
theorem dX11_forgets_15 : decode cX11_forgets 15 = .ok (.bipush 6, 2) := by decide +kernel
theorem dX11_forgets_17 : decode cX11_forgets 17 = .ok (.iconst 0, 1) := by decide +kernel
theorem dX11_forgets_18 : decode cX11_forgets 18 = .ok (.iastore, 1) := by decide +kernel
theorem dX11_forgets_19 : decode cX11_forgets 19 = .ok (.iload_n 1, 1) := by decide +kernel
theorem dX11_forgets_20 : decode cX11_forgets 20 = .ok (.ireturn, 1) := by decide +kernel
theorem dX11_forget_0 : decode cX11_forget 0 = .ok (.aload_n 0, 1) := by decide +kernel
theorem dX11_forget_1 : decode cX11_forget 1 = .ok (.invokevirtual 339, 3) := by decide +kernel
theorem dX11_forget_4 : decode cX11_forget 4 = .ok (.istore_n 1, 1) := by decide +kernel
theorem dX11_forget_5 : decode cX11_forget 5 = .ok (.iload_n 1, 1) := by decide +kernel
theorem dX11_forget_6 : decode cX11_forget 6 = .ok (.ifCond .ne 12, 3) := by decide +kernel
theorem dX11_forget_9 : decode cX11_forget 9 = .ok (.aload_n 0, 1) := by decide +kernel
theorem dX11_forget_10 : decode cX11_forget 10 = .ok (.bipush 7, 2) := by decide +kernel
theorem dX11_forget_12 : decode cX11_forget 12 = .ok (.invokevirtual 99, 3) := by decide +kernel
theorem dX11_forget_15 : decode cX11_forget 15 = .ok (.goto 8, 3) := by decide +kernel
theorem dX11_forget_18 : decode cX11_forget 18 = .ok (.aload_n 0, 1) := by decide +kernel
theorem dX11_forget_19 : decode cX11_forget 19 = .ok (.iload_n 1, 1) := by decide +kernel
theorem dX11_forget_20 : decode cX11_forget 20 = .ok (.invokevirtual 103, 3) := by decide +kernel
theorem dX11_forget_23 : decode cX11_forget 23 = .ok (.ireturn, 1) := by decide +kernel
theorem dX11_walks_0 : decode cX11_walks 0 = .ok (.aload_n 0, 1) := by decide +kernel
theorem dX11_walks_1 : decode cX11_walks 1 = .ok (.getfield 7, 3) := by decide +kernel
theorem dX11_walks_4 : decode cX11_walks 4 = .ok (.iload_n 1, 1) := by decide +kernel
theorem dX11_walks_5 : decode cX11_walks 5 = .ok (.invokestatic 242, 3) := by decide +kernel
theorem dX11_walks_8 : decode cX11_walks 8 = .ok (.iaload, 1) := by decide +kernel
theorem dX11_walks_9 : decode cX11_walks 9 = .ok (.iload_n 2, 1) := by decide +kernel
theorem dX11_walks_10 : decode cX11_walks 10 = .ok (.if_icmp .eq 7, 3) := by decide +kernel
theorem dX11_walks_13 : decode cX11_walks 13 = .ok (.iconst 1, 1) := by decide +kernel
theorem dX11_walks_14 : decode cX11_walks 14 = .ok (.goto 4, 3) := by decide +kernel
theorem dX11_walks_17 : decode cX11_walks 17 = .ok (.iconst 0, 1) := by decide +kernel
theorem dX11_walks_18 : decode cX11_walks 18 = .ok (.istore_n 3, 1) := by decide +kernel
theorem dX11_walks_19 : decode cX11_walks 19 = .ok (.aload_n 0, 1) := by decide +kernel
theorem dX11_walks_20 : decode cX11_walks 20 = .ok (.getfield 7, 3) := by decide +kernel
theorem dX11_walks_23 : decode cX11_walks 23 = .ok (.iload_n 1, 1) := by decide +kernel
theorem dX11_walks_24 : decode cX11_walks 24 = .ok (.invokestatic 242, 3) := by decide +kernel
theorem dX11_walks_27 : decode cX11_walks 27 = .ok (.iload_n 2, 1) := by decide +kernel
theorem dX11_walks_28 : decode cX11_walks 28 = .ok (.iastore, 1) := by decide +kernel
theorem dX11_walks_29 : decode cX11_walks 29 = .ok (.iload_n 3, 1) := by decide +kernel
theorem dX11_walks_30 : decode cX11_walks 30 = .ok (.ireturn, 1) := by decide +kernel
theorem dX11_walk_0 : decode cX11_walk 0 = .ok (.aload_n 0, 1) := by decide +kernel
theorem dX11_walk_1 : decode cX11_walk 1 = .ok (.iload_n 1, 1) := by decide +kernel
theorem dX11_walk_2 : decode cX11_walk 2 = .ok (.invokevirtual 333, 3) := by decide +kernel
theorem dX11_walk_5 : decode cX11_walk 5 = .ok (.ifCond .eq 11, 3) := by decide +kernel
theorem dX11_walk_8 : decode cX11_walk 8 = .ok (.aload_n 0, 1) := by decide +kernel
theorem dX11_walk_9 : decode cX11_walk 9 = .ok (.iload_n 2, 1) := by decide +kernel
theorem dX11_walk_10 : decode cX11_walk 10 = .ok (.invokevirtual 321, 3) := by decide +kernel
theorem dX11_walk_13 : decode cX11_walk 13 = .ok (.ifCond .ne 9, 3) := by decide +kernel
theorem dX11_walk_16 : decode cX11_walk 16 = .ok (.aload_n 0, 1) := by decide +kernel
theorem dX11_walk_17 : decode cX11_walk 17 = .ok (.iconst 1, 1) := by decide +kernel
theorem dX11_walk_18 : decode cX11_walk 18 = .ok (.invokevirtual 99, 3) := by decide +kernel
theorem dX11_walk_21 : decode cX11_walk 21 = .ok (.ireturn, 1) := by decide +kernel
theorem dX11_walk_22 : decode cX11_walk 22 = .ok (.iload_n 2, 1) := by decide +kernel
theorem dX11_walk_23 : decode cX11_walk 23 = .ok (.aload_n 0, 1) := by decide +kernel
theorem dX11_walk_24 : decode cX11_walk 24 = .ok (.getfield 7, 3) := by decide +kernel
theorem dX11_walk_27 : decode cX11_walk 27 = .ok (.iload_n 1, 1) := by decide +kernel
theorem dX11_walk_28 : decode cX11_walk 28 = .ok (.invokestatic 242, 3) := by decide +kernel
theorem dX11_walk_31 : decode cX11_walk 31 = .ok (.iaload, 1) := by decide +kernel
theorem dX11_walk_32 : decode cX11_walk 32 = .ok (.isub, 1) := by decide +kernel
theorem dX11_walk_33 : decode cX11_walk 33 = .ok (.istore_n 3, 1) := by decide +kernel
theorem dX11_walk_34 : decode cX11_walk 34 = .ok (.aload_n 0, 1) := by decide +kernel
theorem dX11_walk_35 : decode cX11_walk 35 = .ok (.iload_n 1, 1) := by decide +kernel
theorem dX11_walk_36 : decode cX11_walk 36 = .ok (.iload_n 2, 1) := by decide +kernel
theorem dX11_walk_37 : decode cX11_walk 37 = .ok (.invokevirtual 342, 3) := by decide +kernel
theorem dX11_walk_40 : decode cX11_walk 40 = .ok (.ifCond .eq 16, 3) := by decide +kernel
theorem dX11_walk_43 : decode cX11_walk 43 = .ok (.aload_n 0, 1) := by decide +kernel
theorem dX11_walk_44 : decode cX11_walk 44 = .ok (.iload_n 3, 1) := by decide +kernel
theorem dX11_walk_45 : decode cX11_walk 45 = .ok (.iload_n 3, 1) := by decide +kernel
theorem dX11_walk_46 : decode cX11_walk 46 = .ok (.ineg, 1) := by decide +kernel
theorem dX11_walk_47 : decode cX11_walk 47 = .ok (.invokestatic 345, 3) := by decide +kernel
theorem dX11_walk_50 : decode cX11_walk 50 = .ok (.invokevirtual 103, 3) := by decide +kernel
theorem dX11_walk_53 : decode cX11_walk 53 = .ok (.goto 9, 3) := by decide +kernel
theorem dX11_walk_56 : decode cX11_walk 56 = .ok (.aload_n 0, 1) := by decide +kernel
theorem dX11_walk_57 : decode cX11_walk 57 = .ok (.bipush 7, 2) := by decide +kernel
theorem dX11_walk_59 : decode cX11_walk 59 = .ok (.invokevirtual 99, 3) := by decide +kernel
theorem dX11_walk_62 : decode cX11_walk 62 = .ok (.ireturn, 1) := by decide +kernel
theorem dX11_picks_0 : decode cX11_picks 0 = .ok (.aload_n 0, 1) := by decide +kernel
theorem dX11_picks_1 : decode cX11_picks 1 = .ok (.getfield 7, 3) := by decide +kernel
theorem dX11_picks_4 : decode cX11_picks 4 = .ok (.iload_n 1, 1) := by decide +kernel
theorem dX11_picks_5 : decode cX11_picks 5 = .ok (.invokestatic 242, 3) := by decide +kernel
theorem dX11_picks_8 : decode cX11_picks 8 = .ok (.iaload, 1) := by decide +kernel
theorem dX11_picks_9 : decode cX11_picks 9 = .ok (.invokestatic 216, 3) := by decide +kernel
theorem dX11_picks_12 : decode cX11_picks 12 = .ok (.istore_n 2, 1) := by decide +kernel
theorem dX11_picks_13 : decode cX11_picks 13 = .ok (.aload_n 0, 1) := by decide +kernel
theorem dX11_picks_14 : decode cX11_picks 14 = .ok (.getfield 7, 3) := by decide +kernel
theorem dX11_picks_17 : decode cX11_picks 17 = .ok (.iload_n 2, 1) := by decide +kernel
theorem dX11_picks_18 : decode cX11_picks 18 = .ok (.iaload, 1) := by decide +kernel
theorem dX11_picks_19 : decode cX11_picks 19 = .ok (.istore_n 3, 1) := by decide +kernel
theorem dX11_picks_20 : decode cX11_picks 20 = .ok (.aload_n 0, 1) := by decide +kernel
theorem dX11_picks_21 : decode cX11_picks 21 = .ok (.getfield 7, 3) := by decide +kernel
theorem dX11_picks_24 : decode cX11_picks 24 = .ok (.iload_n 2, 1) := by decide +kernel
theorem dX11_picks_25 : decode cX11_picks 25 = .ok (.iconst 0, 1) := by decide +kernel
theorem dX11_picks_26 : decode cX11_picks 26 = .ok (.iastore, 1) := by decide +kernel
theorem dX11_picks_27 : decode cX11_picks 27 = .ok (.aload_n 0, 1) := by decide +kernel
theorem dX11_picks_28 : decode cX11_picks 28 = .ok (.getfield 7, 3) := by decide +kernel
theorem dX11_picks_31 : decode cX11_picks 31 = .ok (.iload_n 1, 1) := by decide +kernel
theorem dX11_picks_32 : decode cX11_picks 32 = .ok (.invokestatic 242, 3) := by decide +kernel
theorem dX11_picks_35 : decode cX11_picks 35 = .ok (.iconst 1, 1) := by decide +kernel
theorem dX11_picks_36 : decode cX11_picks 36 = .ok (.iadd, 1) := by decide +kernel
theorem dX11_picks_37 : decode cX11_picks 37 = .ok (.sipush 9999, 3) := by decide +kernel
theorem dX11_picks_40 : decode cX11_picks 40 = .ok (.aload_n 0, 1) := by decide +kernel
theorem dX11_picks_41 : decode cX11_picks 41 = .ok (.getfield 7, 3) := by decide +kernel
theorem dX11_picks_44 : decode cX11_picks 44 = .ok (.iload_n 1, 1) := by decide +kernel
theorem dX11_picks_45 : decode cX11_picks 45 = .ok (.invokestatic 242, 3) := by decide +kernel
theorem dX11_picks_48 : decode cX11_picks 48 = .ok (.iconst 1, 1) := by decide +kernel
theorem dX11_picks_49 : decode cX11_picks 49 = .ok (.iadd, 1) := by decide +kernel
theorem dX11_picks_50 : decode cX11_picks 50 = .ok (.iaload, 1) := by decide +kernel
theorem dX11_picks_51 : decode cX11_picks 51 = .ok (.iload_n 3, 1) := by decide +kernel
theorem dX11_picks_52 : decode cX11_picks 52 = .ok (.iadd, 1) := by decide +kernel
theorem dX11_picks_53 : decode cX11_picks 53 = .ok (.invokestatic 154, 3) := by decide +kernel
theorem dX11_picks_56 : decode cX11_picks 56 = .ok (.iastore, 1) := by decide +kernel
theorem dX11_picks_57 : decode cX11_picks 57 = .ok (.iload_n 3, 1) := by decide +kernel
theorem dX11_picks_58 : decode cX11_picks 58 = .ok (.ireturn, 1) := by decide +kernel
theorem dX11_pick_0 : decode cX11_pick 0 = .ok (.aload_n 0, 1) := by decide +kernel
theorem dX11_pick_1 : decode cX11_pick 1 = .ok (.iload_n 1, 1) := by decide +kernel
theorem dX11_pick_2 : decode cX11_pick 2 = .ok (.invokevirtual 333, 3) := by decide +kernel
theorem dX11_pick_5 : decode cX11_pick 5 = .ok (.ifCond .ne 9, 3) := by decide +kernel
theorem dX11_pick_8 : decode cX11_pick 8 = .ok (.aload_n 0, 1) := by decide +kernel
theorem dX11_pick_9 : decode cX11_pick 9 = .ok (.iconst 1, 1) := by decide +kernel
theorem dX11_pick_10 : decode cX11_pick 10 = .ok (.invokevirtual 99, 3) := by decide +kernel
theorem dX11_pick_13 : decode cX11_pick 13 = .ok (.ireturn, 1) := by decide +kernel
theorem dX11_pick_14 : decode cX11_pick 14 = .ok (.aload_n 0, 1) := by decide +kernel
theorem dX11_pick_15 : decode cX11_pick 15 = .ok (.iload_n 1, 1) := by decide +kernel
theorem dX11_pick_16 : decode cX11_pick 16 = .ok (.invokevirtual 348, 3) := by decide +kernel
theorem dX11_pick_19 : decode cX11_pick 19 = .ok (.istore_n 2, 1) := by decide +kernel
theorem dX11_pick_20 : decode cX11_pick 20 = .ok (.iload_n 2, 1) := by decide +kernel
theorem dX11_pick_21 : decode cX11_pick 21 = .ok (.ifCond .ne 12, 3) := by decide +kernel
theorem dX11_pick_24 : decode cX11_pick 24 = .ok (.aload_n 0, 1) := by decide +kernel
theorem dX11_pick_25 : decode cX11_pick 25 = .ok (.bipush 7, 2) := by decide +kernel
theorem dX11_pick_27 : decode cX11_pick 27 = .ok (.invokevirtual 99, 3) := by decide +kernel
theorem dX11_pick_30 : decode cX11_pick 30 = .ok (.goto 8, 3) := by decide +kernel
theorem dX11_pick_33 : decode cX11_pick 33 = .ok (.aload_n 0, 1) := by decide +kernel
theorem dX11_pick_34 : decode cX11_pick 34 = .ok (.iload_n 2, 1) := by decide +kernel
theorem dX11_pick_35 : decode cX11_pick 35 = .ok (.invokevirtual 103, 3) := by decide +kernel
theorem dX11_pick_38 : decode cX11_pick 38 = .ok (.ireturn, 1) := by decide +kernel
theorem dX11_nightGoes_0 : decode cX11_nightGoes 0 = .ok (.iconst 0, 1) := by decide +kernel
theorem dX11_nightGoes_1 : decode cX11_nightGoes 1 = .ok (.istore_n 1, 1) := by decide +kernel
theorem dX11_nightGoes_2 : decode cX11_nightGoes 2 = .ok (.iload_n 1, 1) := by decide +kernel
theorem dX11_nightGoes_3 : decode cX11_nightGoes 3 = .ok (.aload_n 0, 1) := by decide +kernel
theorem dX11_nightGoes_4 : decode cX11_nightGoes 4 = .ok (.getfield 7, 3) := by decide +kernel
theorem dX11_nightGoes_7 : decode cX11_nightGoes 7 = .ok (.iconst 0, 1) := by decide +kernel
theorem dX11_nightGoes_8 : decode cX11_nightGoes 8 = .ok (.iaload, 1) := by decide +kernel
theorem dX11_nightGoes_9 : decode cX11_nightGoes 9 = .ok (.if_icmp .ge 59, 3) := by decide +kernel
theorem dX11_nightGoes_12 : decode cX11_nightGoes 12 = .ok (.iload_n 1, 1) := by decide +kernel
theorem dX11_nightGoes_13 : decode cX11_nightGoes 13 = .ok (.invokestatic 216, 3) := by decide +kernel
theorem dX11_nightGoes_16 : decode cX11_nightGoes 16 = .ok (.istore_n 2, 1) := by decide +kernel
theorem dX11_nightGoes_17 : decode cX11_nightGoes 17 = .ok (.aload_n 0, 1) := by decide +kernel
theorem dX11_nightGoes_18 : decode cX11_nightGoes 18 = .ok (.getfield 7, 3) := by decide +kernel
theorem dX11_nightGoes_21 : decode cX11_nightGoes 21 = .ok (.iload_n 2, 1) := by decide +kernel
theorem dX11_nightGoes_22 : decode cX11_nightGoes 22 = .ok (.iaload, 1) := by decide +kernel
theorem dX11_nightGoes_23 : decode cX11_nightGoes 23 = .ok (.ifCond .ne 6, 3) := by decide +kernel
theorem dX11_nightGoes_26 : decode cX11_nightGoes 26 = .ok (.goto 36, 3) := by decide +kernel
theorem dX11_nightGoes_29 : decode cX11_nightGoes 29 = .ok (.aload_n 0, 1) := by decide +kernel
theorem dX11_nightGoes_30 : decode cX11_nightGoes 30 = .ok (.getfield 7, 3) := by decide +kernel
theorem dX11_nightGoes_33 : decode cX11_nightGoes 33 = .ok (.iload_n 2, 1) := by decide +kernel
theorem dX11_nightGoes_34 : decode cX11_nightGoes 34 = .ok (.dup2, 1) := by decide +kernel
theorem dX11_nightGoes_35 : decode cX11_nightGoes 35 = .ok (.iaload, 1) := by decide +kernel
theorem dX11_nightGoes_36 : decode cX11_nightGoes 36 = .ok (.iconst 1, 1) := by decide +kernel
theorem dX11_nightGoes_37 : decode cX11_nightGoes 37 = .ok (.isub, 1) := by decide +kernel
theorem dX11_nightGoes_38 : decode cX11_nightGoes 38 = .ok (.iastore, 1) := by decide +kernel
theorem dX11_nightGoes_39 : decode cX11_nightGoes 39 = .ok (.aload_n 0, 1) := by decide +kernel
theorem dX11_nightGoes_40 : decode cX11_nightGoes 40 = .ok (.getfield 7, 3) := by decide +kernel
theorem dX11_nightGoes_43 : decode cX11_nightGoes 43 = .ok (.iload_n 2, 1) := by decide +kernel
theorem dX11_nightGoes_44 : decode cX11_nightGoes 44 = .ok (.iconst 1, 1) := by decide +kernel
theorem dX11_nightGoes_45 : decode cX11_nightGoes 45 = .ok (.iadd, 1) := by decide +kernel
theorem dX11_nightGoes_46 : decode cX11_nightGoes 46 = .ok (.bipush 99, 2) := by decide +kernel
theorem dX11_nightGoes_48 : decode cX11_nightGoes 48 = .ok (.aload_n 0, 1) := by decide +kernel
theorem dX11_nightGoes_49 : decode cX11_nightGoes 49 = .ok (.getfield 7, 3) := by decide +kernel
theorem dX11_nightGoes_52 : decode cX11_nightGoes 52 = .ok (.iload_n 2, 1) := by decide +kernel
theorem dX11_nightGoes_53 : decode cX11_nightGoes 53 = .ok (.iconst 1, 1) := by decide +kernel
theorem dX11_nightGoes_54 : decode cX11_nightGoes 54 = .ok (.iadd, 1) := by decide +kernel
theorem dX11_nightGoes_55 : decode cX11_nightGoes 55 = .ok (.iaload, 1) := by decide +kernel
theorem dX11_nightGoes_56 : decode cX11_nightGoes 56 = .ok (.iconst 1, 1) := by decide +kernel
theorem dX11_nightGoes_57 : decode cX11_nightGoes 57 = .ok (.iadd, 1) := by decide +kernel
theorem dX11_nightGoes_58 : decode cX11_nightGoes 58 = .ok (.invokestatic 154, 3) := by decide +kernel
theorem dX11_nightGoes_61 : decode cX11_nightGoes 61 = .ok (.iastore, 1) := by decide +kernel
theorem dX11_nightGoes_62 : decode cX11_nightGoes 62 = .ok (.iinc 1 1, 3) := by decide +kernel
theorem dX11_nightGoes_65 : decode cX11_nightGoes 65 = .ok (.goto (-63), 3) := by decide +kernel
theorem dX11_nightGoes_68 : decode cX11_nightGoes 68 = .ok (.aload_n 0, 1) := by decide +kernel
theorem dX11_nightGoes_69 : decode cX11_nightGoes 69 = .ok (.getfield 7, 3) := by decide +kernel
theorem dX11_nightGoes_72 : decode cX11_nightGoes 72 = .ok (.iconst 5, 1) := by decide +kernel
theorem dX11_nightGoes_73 : decode cX11_nightGoes 73 = .ok (.dup2, 1) := by decide +kernel
theorem dX11_nightGoes_74 : decode cX11_nightGoes 74 = .ok (.iaload, 1) := by decide +kernel
theorem dX11_nightGoes_75 : decode cX11_nightGoes 75 = .ok (.iconst 1, 1) := by decide +kernel
theorem dX11_nightGoes_76 : decode cX11_nightGoes 76 = .ok (.iadd, 1) := by decide +kernel
theorem dX11_nightGoes_77 : decode cX11_nightGoes 77 = .ok (.iastore, 1) := by decide +kernel
theorem dX11_nightGoes_78 : decode cX11_nightGoes 78 = .ok (.return_, 1) := by decide +kernel
theorem dX11_nightsGo_0 : decode cX11_nightsGo 0 = .ok (.iconst 0, 1) := by decide +kernel
theorem dX11_nightsGo_1 : decode cX11_nightsGo 1 = .ok (.istore_n 2, 1) := by decide +kernel
theorem dX11_nightsGo_2 : decode cX11_nightsGo 2 = .ok (.iload_n 2, 1) := by decide +kernel
theorem dX11_nightsGo_3 : decode cX11_nightsGo 3 = .ok (.iload_n 1, 1) := by decide +kernel
theorem dX11_nightsGo_4 : decode cX11_nightsGo 4 = .ok (.if_icmp .ge 13, 3) := by decide +kernel
theorem dX11_nightsGo_7 : decode cX11_nightsGo 7 = .ok (.aload_n 0, 1) := by decide +kernel
theorem dX11_nightsGo_8 : decode cX11_nightsGo 8 = .ok (.invokevirtual 351, 3) := by decide +kernel
theorem dX11_nightsGo_11 : decode cX11_nightsGo 11 = .ok (.iinc 2 1, 3) := by decide +kernel
theorem dX11_nightsGo_14 : decode cX11_nightsGo 14 = .ok (.goto (-12), 3) := by decide +kernel
theorem dX11_nightsGo_17 : decode cX11_nightsGo 17 = .ok (.return_, 1) := by decide +kernel
theorem dX11_night_0 : decode cX11_night 0 = .ok (.iload_n 1, 1) := by decide +kernel
theorem dX11_night_1 : decode cX11_night 1 = .ok (.i2l, 1) := by decide +kernel
theorem dX11_night_2 : decode cX11_night 2 = .ok (.lconst 1, 1) := by decide +kernel
theorem dX11_night_3 : decode cX11_night 3 = .ok (.ldc2_w 354, 3) := by decide +kernel
theorem dX11_night_6 : decode cX11_night 6 = .ok (.invokestatic 299, 3) := by decide +kernel
theorem dX11_night_9 : decode cX11_night 9 = .ok (.ifCond .ne 9, 3) := by decide +kernel
theorem dX11_night_12 : decode cX11_night 12 = .ok (.aload_n 0, 1) := by decide +kernel
theorem dX11_night_13 : decode cX11_night 13 = .ok (.iconst 1, 1) := by decide +kernel
theorem dX11_night_14 : decode cX11_night 14 = .ok (.invokevirtual 99, 3) := by decide +kernel
theorem dX11_night_17 : decode cX11_night 17 = .ok (.ireturn, 1) := by decide +kernel
theorem dX11_night_18 : decode cX11_night 18 = .ok (.aload_n 0, 1) := by decide +kernel
theorem dX11_night_19 : decode cX11_night 19 = .ok (.getfield 7, 3) := by decide +kernel
theorem dX11_night_22 : decode cX11_night 22 = .ok (.iconst 5, 1) := by decide +kernel
theorem dX11_night_23 : decode cX11_night 23 = .ok (.iaload, 1) := by decide +kernel
theorem dX11_night_24 : decode cX11_night 24 = .ok (.iload_n 1, 1) := by decide +kernel
theorem dX11_night_25 : decode cX11_night 25 = .ok (.iadd, 1) := by decide +kernel
theorem dX11_night_26 : decode cX11_night 26 = .ok (.sipush 9999, 3) := by decide +kernel
theorem dX11_night_29 : decode cX11_night 29 = .ok (.if_icmp .le 9, 3) := by decide +kernel
theorem dX11_night_32 : decode cX11_night 32 = .ok (.aload_n 0, 1) := by decide +kernel
theorem dX11_night_33 : decode cX11_night 33 = .ok (.iconst 4, 1) := by decide +kernel
theorem dX11_night_34 : decode cX11_night 34 = .ok (.invokevirtual 99, 3) := by decide +kernel
theorem dX11_night_37 : decode cX11_night 37 = .ok (.ireturn, 1) := by decide +kernel
theorem dX11_night_38 : decode cX11_night 38 = .ok (.aload_n 0, 1) := by decide +kernel
theorem dX11_night_39 : decode cX11_night 39 = .ok (.iload_n 1, 1) := by decide +kernel
theorem dX11_night_40 : decode cX11_night 40 = .ok (.invokevirtual 356, 3) := by decide +kernel
theorem dX11_night_43 : decode cX11_night 43 = .ok (.aload_n 0, 1) := by decide +kernel
theorem dX11_night_44 : decode cX11_night 44 = .ok (.aload_n 0, 1) := by decide +kernel
theorem dX11_night_45 : decode cX11_night 45 = .ok (.iconst 0, 1) := by decide +kernel
theorem dX11_night_46 : decode cX11_night 46 = .ok (.invokevirtual 318, 3) := by decide +kernel
theorem dX11_night_49 : decode cX11_night 49 = .ok (.invokevirtual 103, 3) := by decide +kernel
theorem dX11_night_52 : decode cX11_night 52 = .ok (.ireturn, 1) := by decide +kernel
theorem dX11_weed_0 : decode cX11_weed 0 = .ok (.aload_n 0, 1) := by decide +kernel
theorem dX11_weed_1 : decode cX11_weed 1 = .ok (.iload_n 1, 1) := by decide +kernel
theorem dX11_weed_2 : decode cX11_weed 2 = .ok (.invokevirtual 321, 3) := by decide +kernel
theorem dX11_weed_5 : decode cX11_weed 5 = .ok (.ifCond .ne 9, 3) := by decide +kernel
theorem dX11_weed_8 : decode cX11_weed 8 = .ok (.aload_n 0, 1) := by decide +kernel
theorem dX11_weed_9 : decode cX11_weed 9 = .ok (.iconst 1, 1) := by decide +kernel
theorem dX11_weed_10 : decode cX11_weed 10 = .ok (.invokevirtual 99, 3) := by decide +kernel
theorem dX11_weed_13 : decode cX11_weed 13 = .ok (.ireturn, 1) := by decide +kernel
theorem dX11_weed_14 : decode cX11_weed 14 = .ok (.aload_n 0, 1) := by decide +kernel
theorem dX11_weed_15 : decode cX11_weed 15 = .ok (.getfield 7, 3) := by decide +kernel
theorem dX11_weed_18 : decode cX11_weed 18 = .ok (.iload_n 1, 1) := by decide +kernel
theorem dX11_weed_19 : decode cX11_weed 19 = .ok (.invokestatic 216, 3) := by decide +kernel
theorem dX11_weed_22 : decode cX11_weed 22 = .ok (.iconst 1, 1) := by decide +kernel
theorem dX11_weed_23 : decode cX11_weed 23 = .ok (.iadd, 1) := by decide +kernel
theorem dX11_weed_24 : decode cX11_weed 24 = .ok (.iaload, 1) := by decide +kernel
theorem dX11_weed_25 : decode cX11_weed 25 = .ok (.istore_n 2, 1) := by decide +kernel
theorem dX11_weed_26 : decode cX11_weed 26 = .ok (.aload_n 0, 1) := by decide +kernel
theorem dX11_weed_27 : decode cX11_weed 27 = .ok (.getfield 7, 3) := by decide +kernel
theorem dX11_weed_30 : decode cX11_weed 30 = .ok (.iload_n 1, 1) := by decide +kernel
theorem dX11_weed_31 : decode cX11_weed 31 = .ok (.invokestatic 216, 3) := by decide +kernel
theorem dX11_weed_34 : decode cX11_weed 34 = .ok (.iconst 1, 1) := by decide +kernel
theorem dX11_weed_35 : decode cX11_weed 35 = .ok (.iadd, 1) := by decide +kernel
theorem dX11_weed_36 : decode cX11_weed 36 = .ok (.iconst 0, 1) := by decide +kernel
theorem dX11_weed_37 : decode cX11_weed 37 = .ok (.iastore, 1) := by decide +kernel
theorem dX11_weed_38 : decode cX11_weed 38 = .ok (.iload_n 2, 1) := by decide +kernel
theorem dX11_weed_39 : decode cX11_weed 39 = .ok (.ifCond .ne 12, 3) := by decide +kernel
theorem dX11_weed_42 : decode cX11_weed 42 = .ok (.aload_n 0, 1) := by decide +kernel
theorem dX11_weed_43 : decode cX11_weed 43 = .ok (.bipush 7, 2) := by decide +kernel
theorem dX11_weed_45 : decode cX11_weed 45 = .ok (.invokevirtual 99, 3) := by decide +kernel
theorem dX11_weed_48 : decode cX11_weed 48 = .ok (.goto 8, 3) := by decide +kernel
theorem dX11_weed_51 : decode cX11_weed 51 = .ok (.aload_n 0, 1) := by decide +kernel
theorem dX11_weed_52 : decode cX11_weed 52 = .ok (.iload_n 2, 1) := by decide +kernel
theorem dX11_weed_53 : decode cX11_weed 53 = .ok (.invokevirtual 103, 3) := by decide +kernel
theorem dX11_weed_56 : decode cX11_weed 56 = .ok (.ireturn, 1) := by decide +kernel
theorem dX11_teach_0 : decode cX11_teach 0 = .ok (.aload_n 0, 1) := by decide +kernel
theorem dX11_teach_1 : decode cX11_teach 1 = .ok (.iload_n 1, 1) := by decide +kernel
theorem dX11_teach_2 : decode cX11_teach 2 = .ok (.invokevirtual 327, 3) := by decide +kernel
theorem dX11_teach_5 : decode cX11_teach 5 = .ok (.ifCond .eq 11, 3) := by decide +kernel
theorem dX11_teach_8 : decode cX11_teach 8 = .ok (.aload_n 0, 1) := by decide +kernel
theorem dX11_teach_9 : decode cX11_teach 9 = .ok (.iload_n 2, 1) := by decide +kernel
theorem dX11_teach_10 : decode cX11_teach 10 = .ok (.invokevirtual 324, 3) := by decide +kernel
theorem dX11_teach_13 : decode cX11_teach 13 = .ok (.ifCond .ne 9, 3) := by decide +kernel
theorem dX11_teach_16 : decode cX11_teach 16 = .ok (.aload_n 0, 1) := by decide +kernel
theorem dX11_teach_17 : decode cX11_teach 17 = .ok (.iconst 1, 1) := by decide +kernel
theorem dX11_teach_18 : decode cX11_teach 18 = .ok (.invokevirtual 106, 3) := by decide +kernel
theorem dX11_teach_21 : decode cX11_teach 21 = .ok (.ireturn, 1) := by decide +kernel
theorem dX11_teach_22 : decode cX11_teach 22 = .ok (.aload_n 0, 1) := by decide +kernel
theorem dX11_teach_23 : decode cX11_teach 23 = .ok (.aload_n 0, 1) := by decide +kernel
theorem dX11_teach_24 : decode cX11_teach 24 = .ok (.iload_n 1, 1) := by decide +kernel
theorem dX11_teach_25 : decode cX11_teach 25 = .ok (.invokevirtual 303, 3) := by decide +kernel
theorem dX11_teach_28 : decode cX11_teach 28 = .ok (.iload_n 2, 1) := by decide +kernel
theorem dX11_teach_29 : decode cX11_teach 29 = .ok (.invokevirtual 236, 3) := by decide +kernel
theorem dX11_teach_32 : decode cX11_teach 32 = .ok (.iload_n 3, 1) := by decide +kernel
theorem dX11_teach_33 : decode cX11_teach 33 = .ok (.if_icmp .ne 10, 3) := by decide +kernel
theorem dX11_teach_36 : decode cX11_teach 36 = .ok (.aload_n 0, 1) := by decide +kernel
theorem dX11_teach_37 : decode cX11_teach 37 = .ok (.bipush 7, 2) := by decide +kernel
theorem dX11_teach_39 : decode cX11_teach 39 = .ok (.invokevirtual 106, 3) := by decide +kernel
theorem dX11_teach_42 : decode cX11_teach 42 = .ok (.ireturn, 1) := by decide +kernel
theorem dX11_teach_43 : decode cX11_teach 43 = .ok (.aload_n 0, 1) := by decide +kernel
theorem dX11_teach_44 : decode cX11_teach 44 = .ok (.getfield 7, 3) := by decide +kernel
theorem dX11_teach_47 : decode cX11_teach 47 = .ok (.iload_n 1, 1) := by decide +kernel
theorem dX11_teach_48 : decode cX11_teach 48 = .ok (.invokestatic 230, 3) := by decide +kernel
theorem dX11_teach_51 : decode cX11_teach 51 = .ok (.iconst 2, 1) := by decide +kernel
theorem dX11_teach_52 : decode cX11_teach 52 = .ok (.iadd, 1) := by decide +kernel
theorem dX11_teach_53 : decode cX11_teach 53 = .ok (.dup2, 1) := by decide +kernel
theorem dX11_teach_54 : decode cX11_teach 54 = .ok (.iaload, 1) := by decide +kernel
theorem dX11_teach_55 : decode cX11_teach 55 = .ok (.iconst 1, 1) := by decide +kernel
theorem dX11_teach_56 : decode cX11_teach 56 = .ok (.iload_n 2, 1) := by decide +kernel
theorem dX11_teach_57 : decode cX11_teach 57 = .ok (.ishl, 1) := by decide +kernel
theorem dX11_teach_58 : decode cX11_teach 58 = .ok (.ixor, 1) := by decide +kernel
theorem dX11_teach_59 : decode cX11_teach 59 = .ok (.iastore, 1) := by decide +kernel
theorem dX11_teach_60 : decode cX11_teach 60 = .ok (.aload_n 0, 1) := by decide +kernel
theorem dX11_teach_61 : decode cX11_teach 61 = .ok (.iconst 0, 1) := by decide +kernel
theorem dX11_teach_62 : decode cX11_teach 62 = .ok (.invokevirtual 106, 3) := by decide +kernel
theorem dX11_teach_65 : decode cX11_teach 65 = .ok (.ireturn, 1) := by decide +kernel
theorem dX11_weigh_0 : decode cX11_weigh 0 = .ok (.aload_n 0, 1) := by decide +kernel
theorem dX11_weigh_1 : decode cX11_weigh 1 = .ok (.iload_n 1, 1) := by decide +kernel
theorem dX11_weigh_2 : decode cX11_weigh 2 = .ok (.invokevirtual 324, 3) := by decide +kernel
theorem dX11_weigh_5 : decode cX11_weigh 5 = .ok (.ifCond .eq 15, 3) := by decide +kernel
theorem dX11_weigh_8 : decode cX11_weigh 8 = .ok (.iload_n 2, 1) := by decide +kernel
theorem dX11_weigh_9 : decode cX11_weigh 9 = .ok (.i2l, 1) := by decide +kernel
theorem dX11_weigh_10 : decode cX11_weigh 10 = .ok (.lconst 1, 1) := by decide +kernel
theorem dX11_weigh_11 : decode cX11_weigh 11 = .ok (.ldc2_w 359, 3) := by decide +kernel
theorem dX11_weigh_14 : decode cX11_weigh 14 = .ok (.invokestatic 299, 3) := by decide +kernel
theorem dX11_weigh_17 : decode cX11_weigh 17 = .ok (.ifCond .ne 9, 3) := by decide +kernel
theorem dX11_weigh_20 : decode cX11_weigh 20 = .ok (.aload_n 0, 1) := by decide +kernel
theorem dX11_weigh_21 : decode cX11_weigh 21 = .ok (.iconst 1, 1) := by decide +kernel
theorem dX11_weigh_22 : decode cX11_weigh 22 = .ok (.invokevirtual 99, 3) := by decide +kernel
theorem dX11_weigh_25 : decode cX11_weigh 25 = .ok (.ireturn, 1) := by decide +kernel
theorem dX11_weigh_26 : decode cX11_weigh 26 = .ok (.aload_n 0, 1) := by decide +kernel
theorem dX11_weigh_27 : decode cX11_weigh 27 = .ok (.getfield 7, 3) := by decide +kernel
theorem dX11_weigh_30 : decode cX11_weigh 30 = .ok (.bipush 22, 2) := by decide +kernel
theorem dX11_weigh_32 : decode cX11_weigh 32 = .ok (.iload_n 1, 1) := by decide +kernel
theorem dX11_weigh_33 : decode cX11_weigh 33 = .ok (.iadd, 1) := by decide +kernel
theorem dX11_weigh_34 : decode cX11_weigh 34 = .ok (.iaload, 1) := by decide +kernel
theorem dX11_weigh_35 : decode cX11_weigh 35 = .ok (.istore_n 3, 1) := by decide +kernel
theorem dX11_weigh_36 : decode cX11_weigh 36 = .ok (.aload_n 0, 1) := by decide +kernel
theorem dX11_weigh_37 : decode cX11_weigh 37 = .ok (.getfield 7, 3) := by decide +kernel
theorem dX11_weigh_40 : decode cX11_weigh 40 = .ok (.bipush 22, 2) := by decide +kernel
theorem dX11_weigh_42 : decode cX11_weigh 42 = .ok (.iload_n 1, 1) := by decide +kernel
theorem dX11_weigh_43 : decode cX11_weigh 43 = .ok (.iadd, 1) := by decide +kernel
theorem dX11_weigh_44 : decode cX11_weigh 44 = .ok (.iload_n 2, 1) := by decide +kernel
theorem dX11_weigh_45 : decode cX11_weigh 45 = .ok (.iastore, 1) := by decide +kernel
theorem dX11_weigh_46 : decode cX11_weigh 46 = .ok (.aload_n 0, 1) := by decide +kernel
theorem dX11_weigh_47 : decode cX11_weigh 47 = .ok (.iload_n 3, 1) := by decide +kernel
theorem dX11_weigh_48 : decode cX11_weigh 48 = .ok (.invokevirtual 103, 3) := by decide +kernel
theorem dX11_weigh_51 : decode cX11_weigh 51 = .ok (.ireturn, 1) := by decide +kernel
theorem dX11_think_0 : decode cX11_think 0 = .ok (.aload_n 0, 1) := by decide +kernel
theorem dX11_think_1 : decode cX11_think 1 = .ok (.iload_n 1, 1) := by decide +kernel
theorem dX11_think_2 : decode cX11_think 2 = .ok (.i2l, 1) := by decide +kernel
theorem dX11_think_3 : decode cX11_think 3 = .ok (.invokevirtual 361, 3) := by decide +kernel
theorem dX11_think_6 : decode cX11_think 6 = .ok (.ifCond .eq 23, 3) := by decide +kernel
theorem dX11_think_9 : decode cX11_think 9 = .ok (.aload_n 0, 1) := by decide +kernel
theorem dX11_think_10 : decode cX11_think 10 = .ok (.iload_n 2, 1) := by decide +kernel
theorem dX11_think_11 : decode cX11_think 11 = .ok (.invokevirtual 321, 3) := by decide +kernel
theorem dX11_think_14 : decode cX11_think 14 = .ok (.ifCond .eq 15, 3) := by decide +kernel
theorem dX11_think_17 : decode cX11_think 17 = .ok (.iload_n 3, 1) := by decide +kernel
theorem dX11_think_18 : decode cX11_think 18 = .ok (.i2l, 1) := by decide +kernel
theorem dX11_think_19 : decode cX11_think 19 = .ok (.lconst 1, 1) := by decide +kernel
theorem dX11_think_20 : decode cX11_think 20 = .ok (.ldc2_w 365, 3) := by decide +kernel
theorem dX11_think_23 : decode cX11_think 23 = .ok (.invokestatic 299, 3) := by decide +kernel
theorem dX11_think_26 : decode cX11_think 26 = .ok (.ifCond .ne 9, 3) := by decide +kernel
theorem dX11_think_29 : decode cX11_think 29 = .ok (.aload_n 0, 1) := by decide +kernel
theorem dX11_think_30 : decode cX11_think 30 = .ok (.iconst 1, 1) := by decide +kernel
theorem dX11_think_31 : decode cX11_think 31 = .ok (.invokevirtual 99, 3) := by decide +kernel
theorem dX11_think_34 : decode cX11_think 34 = .ok (.ireturn, 1) := by decide +kernel
theorem dX11_think_35 : decode cX11_think 35 = .ok (.aload_n 0, 1) := by decide +kernel
theorem dX11_think_36 : decode cX11_think 36 = .ok (.getfield 7, 3) := by decide +kernel
theorem dX11_think_39 : decode cX11_think 39 = .ok (.iconst 2, 1) := by decide +kernel
theorem dX11_think_40 : decode cX11_think 40 = .ok (.iaload, 1) := by decide +kernel
theorem dX11_think_41 : decode cX11_think 41 = .ok (.istore 4, 2) := by decide +kernel
theorem dX11_think_43 : decode cX11_think 43 = .ok (.iload 4, 2) := by decide +kernel
theorem dX11_think_45 : decode cX11_think 45 = .ok (.bipush 7, 2) := by decide +kernel
theorem dX11_think_47 : decode cX11_think 47 = .ok (.if_icmp .ne 9, 3) := by decide +kernel
theorem dX11_think_50 : decode cX11_think 50 = .ok (.aload_n 0, 1) := by decide +kernel
theorem dX11_think_51 : decode cX11_think 51 = .ok (.iconst 4, 1) := by decide +kernel
theorem dX11_think_52 : decode cX11_think 52 = .ok (.invokevirtual 99, 3) := by decide +kernel
theorem dX11_think_55 : decode cX11_think 55 = .ok (.ireturn, 1) := by decide +kernel
theorem dX11_think_56 : decode cX11_think 56 = .ok (.aload_n 0, 1) := by decide +kernel
theorem dX11_think_57 : decode cX11_think 57 = .ok (.getfield 7, 3) := by decide +kernel
theorem dX11_think_60 : decode cX11_think 60 = .ok (.iconst 2, 1) := by decide +kernel
theorem dX11_think_61 : decode cX11_think 61 = .ok (.dup2, 1) := by decide +kernel
theorem dX11_think_62 : decode cX11_think 62 = .ok (.iaload, 1) := by decide +kernel
theorem dX11_think_63 : decode cX11_think 63 = .ok (.iconst 1, 1) := by decide +kernel
theorem dX11_think_64 : decode cX11_think 64 = .ok (.iadd, 1) := by decide +kernel
theorem dX11_think_65 : decode cX11_think 65 = .ok (.iastore, 1) := by decide +kernel
theorem dX11_think_66 : decode cX11_think 66 = .ok (.aload_n 0, 1) := by decide +kernel
theorem dX11_think_67 : decode cX11_think 67 = .ok (.getfield 7, 3) := by decide +kernel
theorem dX11_think_70 : decode cX11_think 70 = .ok (.iload 4, 2) := by decide +kernel
theorem dX11_think_72 : decode cX11_think 72 = .ok (.invokestatic 230, 3) := by decide +kernel
theorem dX11_think_75 : decode cX11_think 75 = .ok (.iload_n 2, 1) := by decide +kernel
theorem dX11_think_76 : decode cX11_think 76 = .ok (.iastore, 1) := by decide +kernel
theorem dX11_think_77 : decode cX11_think 77 = .ok (.aload_n 0, 1) := by decide +kernel
theorem dX11_think_78 : decode cX11_think 78 = .ok (.getfield 7, 3) := by decide +kernel
theorem dX11_think_81 : decode cX11_think 81 = .ok (.iload 4, 2) := by decide +kernel
theorem dX11_think_83 : decode cX11_think 83 = .ok (.invokestatic 230, 3) := by decide +kernel
theorem dX11_think_86 : decode cX11_think 86 = .ok (.iconst 1, 1) := by decide +kernel
theorem dX11_think_87 : decode cX11_think 87 = .ok (.iadd, 1) := by decide +kernel
theorem dX11_think_88 : decode cX11_think 88 = .ok (.iload_n 3, 1) := by decide +kernel
theorem dX11_think_89 : decode cX11_think 89 = .ok (.iastore, 1) := by decide +kernel
theorem dX11_think_90 : decode cX11_think 90 = .ok (.aload_n 0, 1) := by decide +kernel
theorem dX11_think_91 : decode cX11_think 91 = .ok (.getfield 7, 3) := by decide +kernel
theorem dX11_think_94 : decode cX11_think 94 = .ok (.iload 4, 2) := by decide +kernel
theorem dX11_think_96 : decode cX11_think 96 = .ok (.invokestatic 230, 3) := by decide +kernel
theorem dX11_think_99 : decode cX11_think 99 = .ok (.iconst 2, 1) := by decide +kernel
theorem dX11_think_100 : decode cX11_think 100 = .ok (.iadd, 1) := by decide +kernel
theorem dX11_think_101 : decode cX11_think 101 = .ok (.iload_n 1, 1) := by decide +kernel
theorem dX11_think_102 : decode cX11_think 102 = .ok (.iastore, 1) := by decide +kernel
theorem dX11_think_103 : decode cX11_think 103 = .ok (.aload_n 0, 1) := by decide +kernel
theorem dX11_think_104 : decode cX11_think 104 = .ok (.getfield 13, 3) := by decide +kernel
theorem dX11_think_107 : decode cX11_think 107 = .ok (.bipush 8, 2) := by decide +kernel
theorem dX11_think_109 : decode cX11_think 109 = .ok (.iload 4, 2) := by decide +kernel
theorem dX11_think_111 : decode cX11_think 111 = .ok (.iadd, 1) := by decide +kernel
theorem dX11_think_112 : decode cX11_think 112 = .ok (.lconst 0, 1) := by decide +kernel
theorem dX11_think_113 : decode cX11_think 113 = .ok (.lastore, 1) := by decide +kernel
theorem dX11_think_114 : decode cX11_think 114 = .ok (.aload_n 0, 1) := by decide +kernel
theorem dX11_think_115 : decode cX11_think 115 = .ok (.iload 4, 2) := by decide +kernel
theorem dX11_think_117 : decode cX11_think 117 = .ok (.invokevirtual 103, 3) := by decide +kernel
theorem dX11_think_120 : decode cX11_think 120 = .ok (.ireturn, 1) := by decide +kernel
theorem dX11_rule_0 : decode cX11_rule 0 = .ok (.iload_n 1, 1) := by decide +kernel
theorem dX11_rule_1 : decode cX11_rule 1 = .ok (.i2l, 1) := by decide +kernel
theorem dX11_rule_2 : decode cX11_rule 2 = .ok (.lconst 0, 1) := by decide +kernel
theorem dX11_rule_3 : decode cX11_rule 3 = .ok (.ldc2_w 367, 3) := by decide +kernel
theorem dX11_rule_6 : decode cX11_rule 6 = .ok (.invokestatic 299, 3) := by decide +kernel
theorem dX11_rule_9 : decode cX11_rule 9 = .ok (.ifCond .ne 9, 3) := by decide +kernel
theorem dX11_rule_12 : decode cX11_rule 12 = .ok (.aload_n 0, 1) := by decide +kernel
theorem dX11_rule_13 : decode cX11_rule 13 = .ok (.iconst 1, 1) := by decide +kernel
theorem dX11_rule_14 : decode cX11_rule 14 = .ok (.invokevirtual 106, 3) := by decide +kernel
theorem dX11_rule_17 : decode cX11_rule 17 = .ok (.ireturn, 1) := by decide +kernel
theorem dX11_rule_18 : decode cX11_rule 18 = .ok (.aload_n 0, 1) := by decide +kernel
theorem dX11_rule_19 : decode cX11_rule 19 = .ok (.getfield 7, 3) := by decide +kernel
theorem dX11_rule_22 : decode cX11_rule 22 = .ok (.iconst 4, 1) := by decide +kernel
theorem dX11_rule_23 : decode cX11_rule 23 = .ok (.iload_n 1, 1) := by decide +kernel
theorem dX11_rule_24 : decode cX11_rule 24 = .ok (.iastore, 1) := by decide +kernel
theorem dX11_rule_25 : decode cX11_rule 25 = .ok (.aload_n 0, 1) := by decide +kernel
theorem dX11_rule_26 : decode cX11_rule 26 = .ok (.iconst 0, 1) := by decide +kernel
theorem dX11_rule_27 : decode cX11_rule 27 = .ok (.invokevirtual 106, 3) := by decide +kernel
theorem dX11_rule_30 : decode cX11_rule 30 = .ok (.ireturn, 1) := by decide +kernel
theorem dX11_partOf_0 : decode cX11_partOf 0 = .ok (.aload_n 0, 1) := by decide +kernel
theorem dX11_partOf_1 : decode cX11_partOf 1 = .ok (.iload_n 1, 1) := by decide +kernel
theorem dX11_partOf_2 : decode cX11_partOf 2 = .ok (.invokevirtual 324, 3) := by decide +kernel
theorem dX11_partOf_5 : decode cX11_partOf 5 = .ok (.ifCond .ne 9, 3) := by decide +kernel
theorem dX11_partOf_8 : decode cX11_partOf 8 = .ok (.aload_n 0, 1) := by decide +kernel
theorem dX11_partOf_9 : decode cX11_partOf 9 = .ok (.iconst 1, 1) := by decide +kernel
theorem dX11_partOf_10 : decode cX11_partOf 10 = .ok (.invokevirtual 99, 3) := by decide +kernel
theorem dX11_partOf_13 : decode cX11_partOf 13 = .ok (.ireturn, 1) := by decide +kernel
theorem dX11_partOf_14 : decode cX11_partOf 14 = .ok (.aload_n 0, 1) := by decide +kernel
theorem dX11_partOf_15 : decode cX11_partOf 15 = .ok (.aload_n 0, 1) := by decide +kernel
theorem dX11_partOf_16 : decode cX11_partOf 16 = .ok (.iload_n 1, 1) := by decide +kernel
theorem dX11_partOf_17 : decode cX11_partOf 17 = .ok (.aload_n 0, 1) := by decide +kernel
theorem dX11_partOf_18 : decode cX11_partOf 18 = .ok (.getfield 7, 3) := by decide +kernel
theorem dX11_partOf_21 : decode cX11_partOf 21 = .ok (.bipush 6, 2) := by decide +kernel
theorem dX11_partOf_23 : decode cX11_partOf 23 = .ok (.iaload, 1) := by decide +kernel
theorem dX11_partOf_24 : decode cX11_partOf 24 = .ok (.invokevirtual 306, 3) := by decide +kernel
theorem dX11_partOf_27 : decode cX11_partOf 27 = .ok (.invokevirtual 103, 3) := by decide +kernel
theorem dX11_partOf_30 : decode cX11_partOf 30 = .ok (.ireturn, 1) := by decide +kernel
theorem dX11_couples_0 : decode cX11_couples 0 = .ok (.iconst 0, 1) := by decide +kernel
theorem dX11_couples_1 : decode cX11_couples 1 = .ok (.istore_n 1, 1) := by decide +kernel
theorem dX11_couples_2 : decode cX11_couples 2 = .ok (.iconst 0, 1) := by decide +kernel
theorem dX11_couples_3 : decode cX11_couples 3 = .ok (.istore_n 2, 1) := by decide +kernel
theorem dX11_couples_4 : decode cX11_couples 4 = .ok (.iload_n 2, 1) := by decide +kernel
theorem dX11_couples_5 : decode cX11_couples 5 = .ok (.aload_n 0, 1) := by decide +kernel
theorem dX11_couples_6 : decode cX11_couples 6 = .ok (.getfield 7, 3) := by decide +kernel
theorem dX11_couples_9 : decode cX11_couples 9 = .ok (.iconst 1, 1) := by decide +kernel
theorem dX11_couples_10 : decode cX11_couples 10 = .ok (.iaload, 1) := by decide +kernel
theorem dX11_couples_11 : decode cX11_couples 11 = .ok (.if_icmp .ge 29, 3) := by decide +kernel
theorem dX11_couples_14 : decode cX11_couples 14 = .ok (.iload_n 1, 1) := by decide +kernel
theorem dX11_couples_15 : decode cX11_couples 15 = .ok (.aload_n 0, 1) := by decide +kernel
theorem dX11_couples_16 : decode cX11_couples 16 = .ok (.iload_n 2, 1) := by decide +kernel
theorem dX11_couples_17 : decode cX11_couples 17 = .ok (.aload_n 0, 1) := by decide +kernel
theorem dX11_couples_18 : decode cX11_couples 18 = .ok (.getfield 7, 3) := by decide +kernel
theorem dX11_couples_21 : decode cX11_couples 21 = .ok (.bipush 6, 2) := by decide +kernel
theorem dX11_couples_23 : decode cX11_couples 23 = .ok (.iaload, 1) := by decide +kernel
theorem dX11_couples_24 : decode cX11_couples 24 = .ok (.invokevirtual 306, 3) := by decide +kernel
theorem dX11_couples_27 : decode cX11_couples 27 = .ok (.invokestatic 312, 3) := by decide +kernel
theorem dX11_couples_30 : decode cX11_couples 30 = .ok (.iconst 1, 1) := by decide +kernel
theorem dX11_couples_31 : decode cX11_couples 31 = .ok (.isub, 1) := by decide +kernel
theorem dX11_couples_32 : decode cX11_couples 32 = .ok (.iadd, 1) := by decide +kernel
theorem dX11_couples_33 : decode cX11_couples 33 = .ok (.istore_n 1, 1) := by decide +kernel
theorem dX11_couples_34 : decode cX11_couples 34 = .ok (.iinc 2 1, 3) := by decide +kernel
theorem dX11_couples_37 : decode cX11_couples 37 = .ok (.goto (-33), 3) := by decide +kernel
theorem dX11_couples_40 : decode cX11_couples 40 = .ok (.aload_n 0, 1) := by decide +kernel
theorem dX11_couples_41 : decode cX11_couples 41 = .ok (.iload_n 1, 1) := by decide +kernel
theorem dX11_couples_42 : decode cX11_couples 42 = .ok (.iconst 2, 1) := by decide +kernel
theorem dX11_couples_43 : decode cX11_couples 43 = .ok (.idiv, 1) := by decide +kernel
theorem dX11_couples_44 : decode cX11_couples 44 = .ok (.invokevirtual 103, 3) := by decide +kernel
theorem dX11_couples_47 : decode cX11_couples 47 = .ok (.ireturn, 1) := by decide +kernel
theorem dX11_partingOf_0 : decode cX11_partingOf 0 = .ok (.iconst 0, 1) := by decide +kernel
theorem dX11_partingOf_1 : decode cX11_partingOf 1 = .ok (.istore_n 3, 1) := by decide +kernel
theorem dX11_partingOf_2 : decode cX11_partingOf 2 = .ok (.iconst 0, 1) := by decide +kernel
theorem dX11_partingOf_3 : decode cX11_partingOf 3 = .ok (.istore 4, 2) := by decide +kernel
theorem dX11_partingOf_5 : decode cX11_partingOf 5 = .ok (.iload 4, 2) := by decide +kernel
theorem dX11_partingOf_7 : decode cX11_partingOf 7 = .ok (.aload_n 0, 1) := by decide +kernel
theorem dX11_partingOf_8 : decode cX11_partingOf 8 = .ok (.getfield 7, 3) := by decide +kernel
theorem dX11_partingOf_11 : decode cX11_partingOf 11 = .ok (.iconst 2, 1) := by decide +kernel
theorem dX11_partingOf_12 : decode cX11_partingOf 12 = .ok (.iaload, 1) := by decide +kernel
theorem dX11_partingOf_13 : decode cX11_partingOf 13 = .ok (.if_icmp .ge 45, 3) := by decide +kernel
theorem dX11_partingOf_16 : decode cX11_partingOf 16 = .ok (.iload_n 3, 1) := by decide +kernel
theorem dX11_partingOf_17 : decode cX11_partingOf 17 = .ok (.aload_n 0, 1) := by decide +kernel
theorem dX11_partingOf_18 : decode cX11_partingOf 18 = .ok (.aload_n 0, 1) := by decide +kernel
theorem dX11_partingOf_19 : decode cX11_partingOf 19 = .ok (.iload 4, 2) := by decide +kernel
theorem dX11_partingOf_21 : decode cX11_partingOf 21 = .ok (.invokevirtual 303, 3) := by decide +kernel
theorem dX11_partingOf_24 : decode cX11_partingOf 24 = .ok (.iload_n 1, 1) := by decide +kernel
theorem dX11_partingOf_25 : decode cX11_partingOf 25 = .ok (.invokevirtual 236, 3) := by decide +kernel
theorem dX11_partingOf_28 : decode cX11_partingOf 28 = .ok (.aload_n 0, 1) := by decide +kernel
theorem dX11_partingOf_29 : decode cX11_partingOf 29 = .ok (.aload_n 0, 1) := by decide +kernel
theorem dX11_partingOf_30 : decode cX11_partingOf 30 = .ok (.iload 4, 2) := by decide +kernel
theorem dX11_partingOf_32 : decode cX11_partingOf 32 = .ok (.invokevirtual 303, 3) := by decide +kernel
theorem dX11_partingOf_35 : decode cX11_partingOf 35 = .ok (.iload_n 2, 1) := by decide +kernel
theorem dX11_partingOf_36 : decode cX11_partingOf 36 = .ok (.invokevirtual 236, 3) := by decide +kernel
theorem dX11_partingOf_39 : decode cX11_partingOf 39 = .ok (.if_icmp .eq 10, 3) := by decide +kernel
theorem dX11_partingOf_42 : decode cX11_partingOf 42 = .ok (.iconst 1, 1) := by decide +kernel
theorem dX11_partingOf_43 : decode cX11_partingOf 43 = .ok (.iload 4, 2) := by decide +kernel
theorem dX11_partingOf_45 : decode cX11_partingOf 45 = .ok (.ishl, 1) := by decide +kernel
theorem dX11_partingOf_46 : decode cX11_partingOf 46 = .ok (.goto 4, 3) := by decide +kernel
theorem dX11_partingOf_49 : decode cX11_partingOf 49 = .ok (.iconst 0, 1) := by decide +kernel
theorem dX11_partingOf_50 : decode cX11_partingOf 50 = .ok (.ior, 1) := by decide +kernel
theorem dX11_partingOf_51 : decode cX11_partingOf 51 = .ok (.istore_n 3, 1) := by decide +kernel
theorem dX11_partingOf_52 : decode cX11_partingOf 52 = .ok (.iinc 4 1, 3) := by decide +kernel
theorem dX11_partingOf_55 : decode cX11_partingOf 55 = .ok (.goto (-50), 3) := by decide +kernel
theorem dX11_partingOf_58 : decode cX11_partingOf 58 = .ok (.iload_n 3, 1) := by decide +kernel
theorem dX11_partingOf_59 : decode cX11_partingOf 59 = .ok (.ireturn, 1) := by decide +kernel
theorem dX11_parting_0 : decode cX11_parting 0 = .ok (.aload_n 0, 1) := by decide +kernel
theorem dX11_parting_1 : decode cX11_parting 1 = .ok (.iload_n 1, 1) := by decide +kernel
theorem dX11_parting_2 : decode cX11_parting 2 = .ok (.invokevirtual 324, 3) := by decide +kernel
theorem dX11_parting_5 : decode cX11_parting 5 = .ok (.ifCond .eq 16, 3) := by decide +kernel
theorem dX11_parting_8 : decode cX11_parting 8 = .ok (.aload_n 0, 1) := by decide +kernel
theorem dX11_parting_9 : decode cX11_parting 9 = .ok (.iload_n 2, 1) := by decide +kernel
theorem dX11_parting_10 : decode cX11_parting 10 = .ok (.invokevirtual 324, 3) := by decide +kernel
theorem dX11_parting_13 : decode cX11_parting 13 = .ok (.ifCond .eq 8, 3) := by decide +kernel
theorem dX11_parting_16 : decode cX11_parting 16 = .ok (.iload_n 1, 1) := by decide +kernel
theorem dX11_parting_17 : decode cX11_parting 17 = .ok (.iload_n 2, 1) := by decide +kernel
theorem dX11_parting_18 : decode cX11_parting 18 = .ok (.if_icmp .ne 9, 3) := by decide +kernel
theorem dX11_parting_21 : decode cX11_parting 21 = .ok (.aload_n 0, 1) := by decide +kernel
theorem dX11_parting_22 : decode cX11_parting 22 = .ok (.iconst 1, 1) := by decide +kernel
theorem dX11_parting_23 : decode cX11_parting 23 = .ok (.invokevirtual 99, 3) := by decide +kernel
theorem dX11_parting_26 : decode cX11_parting 26 = .ok (.ireturn, 1) := by decide +kernel
theorem dX11_parting_27 : decode cX11_parting 27 = .ok (.aload_n 0, 1) := by decide +kernel
theorem dX11_parting_28 : decode cX11_parting 28 = .ok (.aload_n 0, 1) := by decide +kernel
theorem dX11_parting_29 : decode cX11_parting 29 = .ok (.iload_n 1, 1) := by decide +kernel
theorem dX11_parting_30 : decode cX11_parting 30 = .ok (.iload_n 2, 1) := by decide +kernel
theorem dX11_parting_31 : decode cX11_parting 31 = .ok (.invokevirtual 369, 3) := by decide +kernel
theorem dX11_parting_34 : decode cX11_parting 34 = .ok (.invokevirtual 103, 3) := by decide +kernel
theorem dX11_parting_37 : decode cX11_parting 37 = .ok (.ireturn, 1) := by decide +kernel
theorem dX11_barren_0 : decode cX11_barren 0 = .ok (.iconst 0, 1) := by decide +kernel
theorem dX11_barren_1 : decode cX11_barren 1 = .ok (.istore_n 1, 1) := by decide +kernel
theorem dX11_barren_2 : decode cX11_barren 2 = .ok (.iconst 0, 1) := by decide +kernel
theorem dX11_barren_3 : decode cX11_barren 3 = .ok (.istore_n 2, 1) := by decide +kernel
theorem dX11_barren_4 : decode cX11_barren 4 = .ok (.iload_n 2, 1) := by decide +kernel
theorem dX11_barren_5 : decode cX11_barren 5 = .ok (.aload_n 0, 1) := by decide +kernel
theorem dX11_barren_6 : decode cX11_barren 6 = .ok (.getfield 7, 3) := by decide +kernel
theorem dX11_barren_9 : decode cX11_barren 9 = .ok (.iconst 2, 1) := by decide +kernel
theorem dX11_barren_10 : decode cX11_barren 10 = .ok (.iaload, 1) := by decide +kernel
theorem dX11_barren_11 : decode cX11_barren 11 = .ok (.if_icmp .ge 49, 3) := by decide +kernel
theorem dX11_barren_14 : decode cX11_barren 14 = .ok (.iload_n 1, 1) := by decide +kernel
theorem dX11_barren_15 : decode cX11_barren 15 = .ok (.aload_n 0, 1) := by decide +kernel
theorem dX11_barren_16 : decode cX11_barren 16 = .ok (.aload_n 0, 1) := by decide +kernel
theorem dX11_barren_17 : decode cX11_barren 17 = .ok (.getfield 7, 3) := by decide +kernel
theorem dX11_barren_20 : decode cX11_barren 20 = .ok (.bipush 6, 2) := by decide +kernel
theorem dX11_barren_22 : decode cX11_barren 22 = .ok (.iaload, 1) := by decide +kernel
theorem dX11_barren_23 : decode cX11_barren 23 = .ok (.iload_n 2, 1) := by decide +kernel
theorem dX11_barren_24 : decode cX11_barren 24 = .ok (.invokevirtual 236, 3) := by decide +kernel
theorem dX11_barren_27 : decode cX11_barren 27 = .ok (.ifCond .ne 24, 3) := by decide +kernel
theorem dX11_barren_30 : decode cX11_barren 30 = .ok (.aload_n 0, 1) := by decide +kernel
theorem dX11_barren_31 : decode cX11_barren 31 = .ok (.iload_n 2, 1) := by decide +kernel
theorem dX11_barren_32 : decode cX11_barren 32 = .ok (.aload_n 0, 1) := by decide +kernel
theorem dX11_barren_33 : decode cX11_barren 33 = .ok (.getfield 7, 3) := by decide +kernel
theorem dX11_barren_36 : decode cX11_barren 36 = .ok (.bipush 6, 2) := by decide +kernel
theorem dX11_barren_38 : decode cX11_barren 38 = .ok (.iaload, 1) := by decide +kernel
theorem dX11_barren_39 : decode cX11_barren 39 = .ok (.invokevirtual 330, 3) := by decide +kernel
theorem dX11_barren_42 : decode cX11_barren 42 = .ok (.ifCond .ne 9, 3) := by decide +kernel
theorem dX11_barren_45 : decode cX11_barren 45 = .ok (.iconst 1, 1) := by decide +kernel
theorem dX11_barren_46 : decode cX11_barren 46 = .ok (.iload_n 2, 1) := by decide +kernel
theorem dX11_barren_47 : decode cX11_barren 47 = .ok (.ishl, 1) := by decide +kernel
theorem dX11_barren_48 : decode cX11_barren 48 = .ok (.goto 4, 3) := by decide +kernel
theorem dX11_barren_51 : decode cX11_barren 51 = .ok (.iconst 0, 1) := by decide +kernel
theorem dX11_barren_52 : decode cX11_barren 52 = .ok (.ior, 1) := by decide +kernel
theorem dX11_barren_53 : decode cX11_barren 53 = .ok (.istore_n 1, 1) := by decide +kernel
theorem dX11_barren_54 : decode cX11_barren 54 = .ok (.iinc 2 1, 3) := by decide +kernel
theorem dX11_barren_57 : decode cX11_barren 57 = .ok (.goto (-53), 3) := by decide +kernel
theorem dX11_barren_60 : decode cX11_barren 60 = .ok (.aload_n 0, 1) := by decide +kernel
theorem dX11_barren_61 : decode cX11_barren 61 = .ok (.iload_n 1, 1) := by decide +kernel
theorem dX11_barren_62 : decode cX11_barren 62 = .ok (.invokevirtual 103, 3) := by decide +kernel
theorem dX11_barren_65 : decode cX11_barren 65 = .ok (.ireturn, 1) := by decide +kernel
theorem dX11_laysMost_0 : decode cX11_laysMost 0 = .ok (.iconst 0, 1) := by decide +kernel
theorem dX11_laysMost_1 : decode cX11_laysMost 1 = .ok (.istore_n 2, 1) := by decide +kernel
theorem dX11_laysMost_2 : decode cX11_laysMost 2 = .ok (.aload_n 0, 1) := by decide +kernel
theorem dX11_laysMost_3 : decode cX11_laysMost 3 = .ok (.iconst 0, 1) := by decide +kernel
theorem dX11_laysMost_4 : decode cX11_laysMost 4 = .ok (.putfield 372, 3) := by decide +kernel
theorem dX11_laysMost_7 : decode cX11_laysMost 7 = .ok (.aload_n 0, 1) := by decide +kernel
theorem dX11_laysMost_8 : decode cX11_laysMost 8 = .ok (.iconst 0, 1) := by decide +kernel
theorem dX11_laysMost_9 : decode cX11_laysMost 9 = .ok (.putfield 375, 3) := by decide +kernel
theorem dX11_laysMost_12 : decode cX11_laysMost 12 = .ok (.aload_n 0, 1) := by decide +kernel
theorem dX11_laysMost_13 : decode cX11_laysMost 13 = .ok (.getfield 47, 3) := by decide +kernel
theorem dX11_laysMost_16 : decode cX11_laysMost 16 = .ok (.iconst 0, 1) := by decide +kernel
theorem dX11_laysMost_17 : decode cX11_laysMost 17 = .ok (.iconst (-1), 1) := by decide +kernel
theorem dX11_laysMost_18 : decode cX11_laysMost 18 = .ok (.iastore, 1) := by decide +kernel
theorem dX11_laysMost_19 : decode cX11_laysMost 19 = .ok (.aload_n 0, 1) := by decide +kernel
theorem dX11_laysMost_20 : decode cX11_laysMost 20 = .ok (.getfield 50, 3) := by decide +kernel
theorem dX11_laysMost_23 : decode cX11_laysMost 23 = .ok (.iconst 0, 1) := by decide +kernel
theorem dX11_laysMost_24 : decode cX11_laysMost 24 = .ok (.iconst 0, 1) := by decide +kernel
theorem dX11_laysMost_25 : decode cX11_laysMost 25 = .ok (.iastore, 1) := by decide +kernel
theorem dX11_laysMost_26 : decode cX11_laysMost 26 = .ok (.aload_n 0, 1) := by decide +kernel
theorem dX11_laysMost_27 : decode cX11_laysMost 27 = .ok (.getfield 53, 3) := by decide +kernel
theorem dX11_laysMost_30 : decode cX11_laysMost 30 = .ok (.iconst 0, 1) := by decide +kernel
theorem dX11_laysMost_31 : decode cX11_laysMost 31 = .ok (.aload_n 0, 1) := by decide +kernel
theorem dX11_laysMost_32 : decode cX11_laysMost 32 = .ok (.getfield 7, 3) := by decide +kernel
theorem dX11_laysMost_35 : decode cX11_laysMost 35 = .ok (.bipush 6, 2) := by decide +kernel
theorem dX11_laysMost_37 : decode cX11_laysMost 37 = .ok (.iaload, 1) := by decide +kernel
theorem dX11_laysMost_38 : decode cX11_laysMost 38 = .ok (.iastore, 1) := by decide +kernel
theorem dX11_laysMost_39 : decode cX11_laysMost 39 = .ok (.iload_n 2, 1) := by decide +kernel
theorem dX11_laysMost_40 : decode cX11_laysMost 40 = .ok (.ifCond .lt 177, 3) := by decide +kernel
theorem dX11_laysMost_43 : decode cX11_laysMost 43 = .ok (.iload_n 1, 1) := by decide +kernel
theorem dX11_laysMost_44 : decode cX11_laysMost 44 = .ok (.ifCond .le 173, 3) := by decide +kernel
theorem dX11_laysMost_47 : decode cX11_laysMost 47 = .ok (.aload_n 0, 1) := by decide +kernel
theorem dX11_laysMost_48 : decode cX11_laysMost 48 = .ok (.getfield 47, 3) := by decide +kernel
theorem dX11_laysMost_51 : decode cX11_laysMost 51 = .ok (.iload_n 2, 1) := by decide +kernel
theorem dX11_laysMost_52 : decode cX11_laysMost 52 = .ok (.dup2, 1) := by decide +kernel
theorem dX11_laysMost_53 : decode cX11_laysMost 53 = .ok (.iaload, 1) := by decide +kernel
theorem dX11_laysMost_54 : decode cX11_laysMost 54 = .ok (.iconst 1, 1) := by decide +kernel
theorem dX11_laysMost_55 : decode cX11_laysMost 55 = .ok (.iadd, 1) := by decide +kernel
theorem dX11_laysMost_56 : decode cX11_laysMost 56 = .ok (.iastore, 1) := by decide +kernel
theorem dX11_laysMost_57 : decode cX11_laysMost 57 = .ok (.aload_n 0, 1) := by decide +kernel
theorem dX11_laysMost_58 : decode cX11_laysMost 58 = .ok (.getfield 47, 3) := by decide +kernel
theorem dX11_laysMost_61 : decode cX11_laysMost 61 = .ok (.iload_n 2, 1) := by decide +kernel
theorem dX11_laysMost_62 : decode cX11_laysMost 62 = .ok (.iaload, 1) := by decide +kernel
theorem dX11_laysMost_63 : decode cX11_laysMost 63 = .ok (.istore_n 3, 1) := by decide +kernel
theorem dX11_laysMost_64 : decode cX11_laysMost 64 = .ok (.iload_n 3, 1) := by decide +kernel
theorem dX11_laysMost_65 : decode cX11_laysMost 65 = .ok (.aload_n 0, 1) := by decide +kernel
theorem dX11_laysMost_66 : decode cX11_laysMost 66 = .ok (.getfield 7, 3) := by decide +kernel
theorem dX11_laysMost_69 : decode cX11_laysMost 69 = .ok (.iconst 2, 1) := by decide +kernel
theorem dX11_laysMost_70 : decode cX11_laysMost 70 = .ok (.iaload, 1) := by decide +kernel
theorem dX11_laysMost_71 : decode cX11_laysMost 71 = .ok (.if_icmp .ne 9, 3) := by decide +kernel
theorem dX11_laysMost_74 : decode cX11_laysMost 74 = .ok (.iinc 2 (-1), 3) := by decide +kernel
theorem dX11_laysMost_77 : decode cX11_laysMost 77 = .ok (.goto (-38), 3) := by decide +kernel
theorem dX11_laysMost_80 : decode cX11_laysMost 80 = .ok (.aload_n 0, 1) := by decide +kernel
theorem dX11_laysMost_81 : decode cX11_laysMost 81 = .ok (.aload_n 0, 1) := by decide +kernel
theorem dX11_laysMost_82 : decode cX11_laysMost 82 = .ok (.getfield 53, 3) := by decide +kernel
theorem dX11_laysMost_85 : decode cX11_laysMost 85 = .ok (.iload_n 2, 1) := by decide +kernel
theorem dX11_laysMost_86 : decode cX11_laysMost 86 = .ok (.iaload, 1) := by decide +kernel
theorem dX11_laysMost_87 : decode cX11_laysMost 87 = .ok (.iload_n 3, 1) := by decide +kernel
theorem dX11_laysMost_88 : decode cX11_laysMost 88 = .ok (.invokevirtual 236, 3) := by decide +kernel
theorem dX11_laysMost_91 : decode cX11_laysMost 91 = .ok (.ifCond .eq 6, 3) := by decide +kernel
theorem dX11_laysMost_94 : decode cX11_laysMost 94 = .ok (.goto (-55), 3) := by decide +kernel
theorem dX11_laysMost_97 : decode cX11_laysMost 97 = .ok (.aload_n 0, 1) := by decide +kernel
theorem dX11_laysMost_98 : decode cX11_laysMost 98 = .ok (.getfield 50, 3) := by decide +kernel
theorem dX11_laysMost_101 : decode cX11_laysMost 101 = .ok (.iload_n 2, 1) := by decide +kernel
theorem dX11_laysMost_102 : decode cX11_laysMost 102 = .ok (.iaload, 1) := by decide +kernel
theorem dX11_laysMost_103 : decode cX11_laysMost 103 = .ok (.aload_n 0, 1) := by decide +kernel
theorem dX11_laysMost_104 : decode cX11_laysMost 104 = .ok (.iload_n 3, 1) := by decide +kernel
theorem dX11_laysMost_105 : decode cX11_laysMost 105 = .ok (.aload_n 0, 1) := by decide +kernel
theorem dX11_laysMost_106 : decode cX11_laysMost 106 = .ok (.getfield 53, 3) := by decide +kernel
theorem dX11_laysMost_109 : decode cX11_laysMost 109 = .ok (.iload_n 2, 1) := by decide +kernel
theorem dX11_laysMost_110 : decode cX11_laysMost 110 = .ok (.iaload, 1) := by decide +kernel
theorem dX11_laysMost_111 : decode cX11_laysMost 111 = .ok (.invokevirtual 330, 3) := by decide +kernel
theorem dX11_laysMost_114 : decode cX11_laysMost 114 = .ok (.iadd, 1) := by decide +kernel
theorem dX11_laysMost_115 : decode cX11_laysMost 115 = .ok (.istore 4, 2) := by decide +kernel
theorem dX11_laysMost_117 : decode cX11_laysMost 117 = .ok (.iload 4, 2) := by decide +kernel
theorem dX11_laysMost_119 : decode cX11_laysMost 119 = .ok (.aload_n 0, 1) := by decide +kernel
theorem dX11_laysMost_120 : decode cX11_laysMost 120 = .ok (.getfield 372, 3) := by decide +kernel
theorem dX11_laysMost_123 : decode cX11_laysMost 123 = .ok (.if_icmp .le 45, 3) := by decide +kernel
theorem dX11_laysMost_126 : decode cX11_laysMost 126 = .ok (.aload_n 0, 1) := by decide +kernel
theorem dX11_laysMost_127 : decode cX11_laysMost 127 = .ok (.iload 4, 2) := by decide +kernel
theorem dX11_laysMost_129 : decode cX11_laysMost 129 = .ok (.putfield 372, 3) := by decide +kernel
theorem dX11_laysMost_132 : decode cX11_laysMost 132 = .ok (.aload_n 0, 1) := by decide +kernel
theorem dX11_laysMost_133 : decode cX11_laysMost 133 = .ok (.iload_n 2, 1) := by decide +kernel
theorem dX11_laysMost_134 : decode cX11_laysMost 134 = .ok (.iconst 1, 1) := by decide +kernel
theorem dX11_laysMost_135 : decode cX11_laysMost 135 = .ok (.iadd, 1) := by decide +kernel
theorem dX11_laysMost_136 : decode cX11_laysMost 136 = .ok (.putfield 375, 3) := by decide +kernel
theorem dX11_laysMost_139 : decode cX11_laysMost 139 = .ok (.iconst 0, 1) := by decide +kernel
theorem dX11_laysMost_140 : decode cX11_laysMost 140 = .ok (.istore 5, 2) := by decide +kernel
theorem dX11_laysMost_142 : decode cX11_laysMost 142 = .ok (.iload 5, 2) := by decide +kernel
theorem dX11_laysMost_144 : decode cX11_laysMost 144 = .ok (.iload_n 2, 1) := by decide +kernel
theorem dX11_laysMost_145 : decode cX11_laysMost 145 = .ok (.if_icmp .gt 23, 3) := by decide +kernel
theorem dX11_laysMost_148 : decode cX11_laysMost 148 = .ok (.aload_n 0, 1) := by decide +kernel
theorem dX11_laysMost_149 : decode cX11_laysMost 149 = .ok (.getfield 56, 3) := by decide +kernel
theorem dX11_laysMost_152 : decode cX11_laysMost 152 = .ok (.iload 5, 2) := by decide +kernel
theorem dX11_laysMost_154 : decode cX11_laysMost 154 = .ok (.aload_n 0, 1) := by decide +kernel
theorem dX11_laysMost_155 : decode cX11_laysMost 155 = .ok (.getfield 47, 3) := by decide +kernel
theorem dX11_laysMost_158 : decode cX11_laysMost 158 = .ok (.iload 5, 2) := by decide +kernel
theorem dX11_laysMost_160 : decode cX11_laysMost 160 = .ok (.iaload, 1) := by decide +kernel
theorem dX11_laysMost_161 : decode cX11_laysMost 161 = .ok (.iastore, 1) := by decide +kernel
theorem dX11_laysMost_162 : decode cX11_laysMost 162 = .ok (.iinc 5 1, 3) := by decide +kernel
theorem dX11_laysMost_165 : decode cX11_laysMost 165 = .ok (.goto (-23), 3) := by decide +kernel
theorem dX11_laysMost_168 : decode cX11_laysMost 168 = .ok (.iload_n 2, 1) := by decide +kernel
theorem dX11_laysMost_169 : decode cX11_laysMost 169 = .ok (.iconst 1, 1) := by decide +kernel
theorem dX11_laysMost_170 : decode cX11_laysMost 170 = .ok (.iadd, 1) := by decide +kernel
theorem dX11_laysMost_171 : decode cX11_laysMost 171 = .ok (.iload_n 1, 1) := by decide +kernel
theorem dX11_laysMost_172 : decode cX11_laysMost 172 = .ok (.if_icmp .ne 6, 3) := by decide +kernel
theorem dX11_laysMost_175 : decode cX11_laysMost 175 = .ok (.goto (-136), 3) := by decide +kernel
theorem dX11_laysMost_178 : decode cX11_laysMost 178 = .ok (.iinc 2 1, 3) := by decide +kernel
theorem dX11_laysMost_181 : decode cX11_laysMost 181 = .ok (.aload_n 0, 1) := by decide +kernel
theorem dX11_laysMost_182 : decode cX11_laysMost 182 = .ok (.getfield 47, 3) := by decide +kernel
theorem dX11_laysMost_185 : decode cX11_laysMost 185 = .ok (.iload_n 2, 1) := by decide +kernel
theorem dX11_laysMost_186 : decode cX11_laysMost 186 = .ok (.iconst (-1), 1) := by decide +kernel
theorem dX11_laysMost_187 : decode cX11_laysMost 187 = .ok (.iastore, 1) := by decide +kernel
theorem dX11_laysMost_188 : decode cX11_laysMost 188 = .ok (.aload_n 0, 1) := by decide +kernel
theorem dX11_laysMost_189 : decode cX11_laysMost 189 = .ok (.getfield 50, 3) := by decide +kernel
theorem dX11_laysMost_192 : decode cX11_laysMost 192 = .ok (.iload_n 2, 1) := by decide +kernel
theorem dX11_laysMost_193 : decode cX11_laysMost 193 = .ok (.iload 4, 2) := by decide +kernel
theorem dX11_laysMost_195 : decode cX11_laysMost 195 = .ok (.iastore, 1) := by decide +kernel
theorem dX11_laysMost_196 : decode cX11_laysMost 196 = .ok (.aload_n 0, 1) := by decide +kernel
theorem dX11_laysMost_197 : decode cX11_laysMost 197 = .ok (.getfield 53, 3) := by decide +kernel
theorem dX11_laysMost_200 : decode cX11_laysMost 200 = .ok (.iload_n 2, 1) := by decide +kernel
theorem dX11_laysMost_201 : decode cX11_laysMost 201 = .ok (.aload_n 0, 1) := by decide +kernel
theorem dX11_laysMost_202 : decode cX11_laysMost 202 = .ok (.getfield 53, 3) := by decide +kernel
theorem dX11_laysMost_205 : decode cX11_laysMost 205 = .ok (.iload_n 2, 1) := by decide +kernel
theorem dX11_laysMost_206 : decode cX11_laysMost 206 = .ok (.iconst 1, 1) := by decide +kernel
theorem dX11_laysMost_207 : decode cX11_laysMost 207 = .ok (.isub, 1) := by decide +kernel
theorem dX11_laysMost_208 : decode cX11_laysMost 208 = .ok (.iaload, 1) := by decide +kernel
theorem dX11_laysMost_209 : decode cX11_laysMost 209 = .ok (.iconst 1, 1) := by decide +kernel
theorem dX11_laysMost_210 : decode cX11_laysMost 210 = .ok (.iload_n 3, 1) := by decide +kernel
theorem dX11_laysMost_211 : decode cX11_laysMost 211 = .ok (.ishl, 1) := by decide +kernel
theorem dX11_laysMost_212 : decode cX11_laysMost 212 = .ok (.ior, 1) := by decide +kernel
theorem dX11_laysMost_213 : decode cX11_laysMost 213 = .ok (.iastore, 1) := by decide +kernel
theorem dX11_laysMost_214 : decode cX11_laysMost 214 = .ok (.goto (-175), 3) := by decide +kernel
theorem dX11_laysMost_217 : decode cX11_laysMost 217 = .ok (.return_, 1) := by decide +kernel
theorem dX11_most_0 : decode cX11_most 0 = .ok (.iload_n 1, 1) := by decide +kernel
theorem dX11_most_1 : decode cX11_most 1 = .ok (.i2l, 1) := by decide +kernel
theorem dX11_most_2 : decode cX11_most 2 = .ok (.lconst 0, 1) := by decide +kernel
theorem dX11_most_3 : decode cX11_most 3 = .ok (.ldc2_w 378, 3) := by decide +kernel
theorem dX11_most_6 : decode cX11_most 6 = .ok (.invokestatic 299, 3) := by decide +kernel
theorem dX11_most_9 : decode cX11_most 9 = .ok (.ifCond .ne 9, 3) := by decide +kernel
theorem dX11_most_12 : decode cX11_most 12 = .ok (.aload_n 0, 1) := by decide +kernel
theorem dX11_most_13 : decode cX11_most 13 = .ok (.iconst 1, 1) := by decide +kernel
theorem dX11_most_14 : decode cX11_most 14 = .ok (.invokevirtual 99, 3) := by decide +kernel
theorem dX11_most_17 : decode cX11_most 17 = .ok (.ireturn, 1) := by decide +kernel
theorem dX11_most_18 : decode cX11_most 18 = .ok (.aload_n 0, 1) := by decide +kernel
theorem dX11_most_19 : decode cX11_most 19 = .ok (.iload_n 1, 1) := by decide +kernel
theorem dX11_most_20 : decode cX11_most 20 = .ok (.invokevirtual 380, 3) := by decide +kernel
theorem dX11_most_23 : decode cX11_most 23 = .ok (.aload_n 0, 1) := by decide +kernel
theorem dX11_most_24 : decode cX11_most 24 = .ok (.aload_n 0, 1) := by decide +kernel
theorem dX11_most_25 : decode cX11_most 25 = .ok (.getfield 372, 3) := by decide +kernel
theorem dX11_most_28 : decode cX11_most 28 = .ok (.invokevirtual 103, 3) := by decide +kernel
theorem dX11_most_31 : decode cX11_most 31 = .ok (.ireturn, 1) := by decide +kernel
theorem dX11_first_0 : decode cX11_first 0 = .ok (.iload_n 1, 1) := by decide +kernel
theorem dX11_first_1 : decode cX11_first 1 = .ok (.i2l, 1) := by decide +kernel
theorem dX11_first_2 : decode cX11_first 2 = .ok (.lconst 0, 1) := by decide +kernel
theorem dX11_first_3 : decode cX11_first 3 = .ok (.ldc2_w 378, 3) := by decide +kernel
theorem dX11_first_6 : decode cX11_first 6 = .ok (.invokestatic 299, 3) := by decide +kernel
theorem dX11_first_9 : decode cX11_first 9 = .ok (.ifCond .eq 7, 3) := by decide +kernel
theorem dX11_first_12 : decode cX11_first 12 = .ok (.iload_n 2, 1) := by decide +kernel
theorem dX11_first_13 : decode cX11_first 13 = .ok (.ifCond .ge 9, 3) := by decide +kernel
theorem dX11_first_16 : decode cX11_first 16 = .ok (.aload_n 0, 1) := by decide +kernel
theorem dX11_first_17 : decode cX11_first 17 = .ok (.iconst 1, 1) := by decide +kernel
theorem dX11_first_18 : decode cX11_first 18 = .ok (.invokevirtual 99, 3) := by decide +kernel
theorem dX11_first_21 : decode cX11_first 21 = .ok (.ireturn, 1) := by decide +kernel
theorem dX11_first_22 : decode cX11_first 22 = .ok (.aload_n 0, 1) := by decide +kernel
theorem dX11_first_23 : decode cX11_first 23 = .ok (.iload_n 1, 1) := by decide +kernel
theorem dX11_first_24 : decode cX11_first 24 = .ok (.invokevirtual 380, 3) := by decide +kernel
theorem dX11_first_27 : decode cX11_first 27 = .ok (.iload_n 2, 1) := by decide +kernel
theorem dX11_first_28 : decode cX11_first 28 = .ok (.aload_n 0, 1) := by decide +kernel
theorem dX11_first_29 : decode cX11_first 29 = .ok (.getfield 375, 3) := by decide +kernel
theorem dX11_first_32 : decode cX11_first 32 = .ok (.if_icmp .lt 12, 3) := by decide +kernel
theorem dX11_first_35 : decode cX11_first 35 = .ok (.aload_n 0, 1) := by decide +kernel
theorem dX11_first_36 : decode cX11_first 36 = .ok (.bipush 6, 2) := by decide +kernel
theorem dX11_first_38 : decode cX11_first 38 = .ok (.invokevirtual 99, 3) := by decide +kernel
theorem dX11_first_41 : decode cX11_first 41 = .ok (.goto 13, 3) := by decide +kernel
theorem dX11_first_44 : decode cX11_first 44 = .ok (.aload_n 0, 1) := by decide +kernel
theorem dX11_first_45 : decode cX11_first 45 = .ok (.aload_n 0, 1) := by decide +kernel
theorem dX11_first_46 : decode cX11_first 46 = .ok (.getfield 56, 3) := by decide +kernel
theorem dX11_first_49 : decode cX11_first 49 = .ok (.iload_n 2, 1) := by decide +kernel
theorem dX11_first_50 : decode cX11_first 50 = .ok (.iaload, 1) := by decide +kernel
theorem dX11_first_51 : decode cX11_first 51 = .ok (.invokevirtual 103, 3) := by decide +kernel
theorem dX11_first_54 : decode cX11_first 54 = .ok (.ireturn, 1) := by decide +kernel
theorem dX11_partsAll_0 : decode cX11_partsAll 0 = .ok (.iconst 0, 1) := by decide +kernel
theorem dX11_partsAll_1 : decode cX11_partsAll 1 = .ok (.istore_n 3, 1) := by decide +kernel
theorem dX11_partsAll_2 : decode cX11_partsAll 2 = .ok (.iload_n 3, 1) := by decide +kernel
theorem dX11_partsAll_3 : decode cX11_partsAll 3 = .ok (.aload_n 0, 1) := by decide +kernel
theorem dX11_partsAll_4 : decode cX11_partsAll 4 = .ok (.getfield 7, 3) := by decide +kernel
theorem dX11_partsAll_7 : decode cX11_partsAll 7 = .ok (.iconst 1, 1) := by decide +kernel
theorem dX11_partsAll_8 : decode cX11_partsAll 8 = .ok (.iaload, 1) := by decide +kernel
theorem dX11_partsAll_9 : decode cX11_partsAll 9 = .ok (.if_icmp .ge 64, 3) := by decide +kernel
theorem dX11_partsAll_12 : decode cX11_partsAll 12 = .ok (.iload_n 3, 1) := by decide +kernel
theorem dX11_partsAll_13 : decode cX11_partsAll 13 = .ok (.iconst 1, 1) := by decide +kernel
theorem dX11_partsAll_14 : decode cX11_partsAll 14 = .ok (.iadd, 1) := by decide +kernel
theorem dX11_partsAll_15 : decode cX11_partsAll 15 = .ok (.istore 4, 2) := by decide +kernel
theorem dX11_partsAll_17 : decode cX11_partsAll 17 = .ok (.iload 4, 2) := by decide +kernel
theorem dX11_partsAll_19 : decode cX11_partsAll 19 = .ok (.aload_n 0, 1) := by decide +kernel
theorem dX11_partsAll_20 : decode cX11_partsAll 20 = .ok (.getfield 7, 3) := by decide +kernel
theorem dX11_partsAll_23 : decode cX11_partsAll 23 = .ok (.iconst 1, 1) := by decide +kernel
theorem dX11_partsAll_24 : decode cX11_partsAll 24 = .ok (.iaload, 1) := by decide +kernel
theorem dX11_partsAll_25 : decode cX11_partsAll 25 = .ok (.if_icmp .ge 42, 3) := by decide +kernel
theorem dX11_partsAll_28 : decode cX11_partsAll 28 = .ok (.aload_n 0, 1) := by decide +kernel
theorem dX11_partsAll_29 : decode cX11_partsAll 29 = .ok (.iload_n 2, 1) := by decide +kernel
theorem dX11_partsAll_30 : decode cX11_partsAll 30 = .ok (.iload_n 3, 1) := by decide +kernel
theorem dX11_partsAll_31 : decode cX11_partsAll 31 = .ok (.invokevirtual 236, 3) := by decide +kernel
theorem dX11_partsAll_34 : decode cX11_partsAll 34 = .ok (.ifCond .eq 27, 3) := by decide +kernel
theorem dX11_partsAll_37 : decode cX11_partsAll 37 = .ok (.aload_n 0, 1) := by decide +kernel
theorem dX11_partsAll_38 : decode cX11_partsAll 38 = .ok (.iload_n 2, 1) := by decide +kernel
theorem dX11_partsAll_39 : decode cX11_partsAll 39 = .ok (.iload 4, 2) := by decide +kernel
theorem dX11_partsAll_41 : decode cX11_partsAll 41 = .ok (.invokevirtual 236, 3) := by decide +kernel
theorem dX11_partsAll_44 : decode cX11_partsAll 44 = .ok (.ifCond .eq 17, 3) := by decide +kernel
theorem dX11_partsAll_47 : decode cX11_partsAll 47 = .ok (.aload_n 0, 1) := by decide +kernel
theorem dX11_partsAll_48 : decode cX11_partsAll 48 = .ok (.iload_n 3, 1) := by decide +kernel
theorem dX11_partsAll_49 : decode cX11_partsAll 49 = .ok (.iload 4, 2) := by decide +kernel
theorem dX11_partsAll_51 : decode cX11_partsAll 51 = .ok (.invokevirtual 369, 3) := by decide +kernel
theorem dX11_partsAll_54 : decode cX11_partsAll 54 = .ok (.iload_n 1, 1) := by decide +kernel
theorem dX11_partsAll_55 : decode cX11_partsAll 55 = .ok (.iand, 1) := by decide +kernel
theorem dX11_partsAll_56 : decode cX11_partsAll 56 = .ok (.ifCond .ne 5, 3) := by decide +kernel
theorem dX11_partsAll_59 : decode cX11_partsAll 59 = .ok (.iconst 0, 1) := by decide +kernel
theorem dX11_partsAll_60 : decode cX11_partsAll 60 = .ok (.ireturn, 1) := by decide +kernel
theorem dX11_partsAll_61 : decode cX11_partsAll 61 = .ok (.iinc 4 1, 3) := by decide +kernel
theorem dX11_partsAll_64 : decode cX11_partsAll 64 = .ok (.goto (-47), 3) := by decide +kernel
theorem dX11_partsAll_67 : decode cX11_partsAll 67 = .ok (.iinc 3 1, 3) := by decide +kernel
theorem dX11_partsAll_70 : decode cX11_partsAll 70 = .ok (.goto (-68), 3) := by decide +kernel
theorem dX11_partsAll_73 : decode cX11_partsAll 73 = .ok (.iconst 1, 1) := by decide +kernel
theorem dX11_partsAll_74 : decode cX11_partsAll 74 = .ok (.ireturn, 1) := by decide +kernel
theorem dX11_fewestOf_0 : decode cX11_fewestOf 0 = .ok (.iconst (-1), 1) := by decide +kernel
theorem dX11_fewestOf_1 : decode cX11_fewestOf 1 = .ok (.istore_n 2, 1) := by decide +kernel
theorem dX11_fewestOf_2 : decode cX11_fewestOf 2 = .ok (.iconst 0, 1) := by decide +kernel
theorem dX11_fewestOf_3 : decode cX11_fewestOf 3 = .ok (.istore_n 3, 1) := by decide +kernel
theorem dX11_fewestOf_4 : decode cX11_fewestOf 4 = .ok (.iload_n 3, 1) := by decide +kernel
theorem dX11_fewestOf_5 : decode cX11_fewestOf 5 = .ok (.iconst 1, 1) := by decide +kernel
theorem dX11_fewestOf_6 : decode cX11_fewestOf 6 = .ok (.aload_n 0, 1) := by decide +kernel
theorem dX11_fewestOf_7 : decode cX11_fewestOf 7 = .ok (.getfield 7, 3) := by decide +kernel
theorem dX11_fewestOf_10 : decode cX11_fewestOf 10 = .ok (.iconst 2, 1) := by decide +kernel
theorem dX11_fewestOf_11 : decode cX11_fewestOf 11 = .ok (.iaload, 1) := by decide +kernel
theorem dX11_fewestOf_12 : decode cX11_fewestOf 12 = .ok (.ishl, 1) := by decide +kernel
theorem dX11_fewestOf_13 : decode cX11_fewestOf 13 = .ok (.if_icmp .ge 36, 3) := by decide +kernel
theorem dX11_fewestOf_16 : decode cX11_fewestOf 16 = .ok (.iload_n 2, 1) := by decide +kernel
theorem dX11_fewestOf_17 : decode cX11_fewestOf 17 = .ok (.iconst (-1), 1) := by decide +kernel
theorem dX11_fewestOf_18 : decode cX11_fewestOf 18 = .ok (.if_icmp .eq 14, 3) := by decide +kernel
theorem dX11_fewestOf_21 : decode cX11_fewestOf 21 = .ok (.iload_n 3, 1) := by decide +kernel
theorem dX11_fewestOf_22 : decode cX11_fewestOf 22 = .ok (.invokestatic 312, 3) := by decide +kernel
theorem dX11_fewestOf_25 : decode cX11_fewestOf 25 = .ok (.iload_n 2, 1) := by decide +kernel
theorem dX11_fewestOf_26 : decode cX11_fewestOf 26 = .ok (.invokestatic 312, 3) := by decide +kernel
theorem dX11_fewestOf_29 : decode cX11_fewestOf 29 = .ok (.if_icmp .ge 14, 3) := by decide +kernel
theorem dX11_fewestOf_32 : decode cX11_fewestOf 32 = .ok (.aload_n 0, 1) := by decide +kernel
theorem dX11_fewestOf_33 : decode cX11_fewestOf 33 = .ok (.iload_n 3, 1) := by decide +kernel
theorem dX11_fewestOf_34 : decode cX11_fewestOf 34 = .ok (.iload_n 1, 1) := by decide +kernel
theorem dX11_fewestOf_35 : decode cX11_fewestOf 35 = .ok (.invokevirtual 383, 3) := by decide +kernel
theorem dX11_fewestOf_38 : decode cX11_fewestOf 38 = .ok (.ifCond .eq 5, 3) := by decide +kernel
theorem dX11_fewestOf_41 : decode cX11_fewestOf 41 = .ok (.iload_n 3, 1) := by decide +kernel
theorem dX11_fewestOf_42 : decode cX11_fewestOf 42 = .ok (.istore_n 2, 1) := by decide +kernel
theorem dX11_fewestOf_43 : decode cX11_fewestOf 43 = .ok (.iinc 3 1, 3) := by decide +kernel
theorem dX11_fewestOf_46 : decode cX11_fewestOf 46 = .ok (.goto (-42), 3) := by decide +kernel
theorem dX11_fewestOf_49 : decode cX11_fewestOf 49 = .ok (.iload_n 2, 1) := by decide +kernel
theorem dX11_fewestOf_50 : decode cX11_fewestOf 50 = .ok (.ireturn, 1) := by decide +kernel
theorem dX11_fewest_0 : decode cX11_fewest 0 = .ok (.aload_n 0, 1) := by decide +kernel
theorem dX11_fewest_1 : decode cX11_fewest 1 = .ok (.iload_n 1, 1) := by decide +kernel
theorem dX11_fewest_2 : decode cX11_fewest 2 = .ok (.i2l, 1) := by decide +kernel
theorem dX11_fewest_3 : decode cX11_fewest 3 = .ok (.invokevirtual 361, 3) := by decide +kernel
theorem dX11_fewest_6 : decode cX11_fewest 6 = .ok (.ifCond .ne 9, 3) := by decide +kernel
theorem dX11_fewest_9 : decode cX11_fewest 9 = .ok (.aload_n 0, 1) := by decide +kernel
theorem dX11_fewest_10 : decode cX11_fewest 10 = .ok (.iconst 1, 1) := by decide +kernel
theorem dX11_fewest_11 : decode cX11_fewest 11 = .ok (.invokevirtual 99, 3) := by decide +kernel
theorem dX11_fewest_14 : decode cX11_fewest 14 = .ok (.ireturn, 1) := by decide +kernel
theorem dX11_fewest_15 : decode cX11_fewest 15 = .ok (.aload_n 0, 1) := by decide +kernel
theorem dX11_fewest_16 : decode cX11_fewest 16 = .ok (.iload_n 1, 1) := by decide +kernel
theorem dX11_fewest_17 : decode cX11_fewest 17 = .ok (.invokevirtual 386, 3) := by decide +kernel
theorem dX11_fewest_20 : decode cX11_fewest 20 = .ok (.istore_n 2, 1) := by decide +kernel
theorem dX11_fewest_21 : decode cX11_fewest 21 = .ok (.iload_n 2, 1) := by decide +kernel
theorem dX11_fewest_22 : decode cX11_fewest 22 = .ok (.iconst (-1), 1) := by decide +kernel
theorem dX11_fewest_23 : decode cX11_fewest 23 = .ok (.if_icmp .ne 12, 3) := by decide +kernel
theorem dX11_fewest_26 : decode cX11_fewest 26 = .ok (.aload_n 0, 1) := by decide +kernel
theorem dX11_fewest_27 : decode cX11_fewest 27 = .ok (.bipush 6, 2) := by decide +kernel
theorem dX11_fewest_29 : decode cX11_fewest 29 = .ok (.invokevirtual 99, 3) := by decide +kernel
theorem dX11_fewest_32 : decode cX11_fewest 32 = .ok (.goto 11, 3) := by decide +kernel
theorem dX11_fewest_35 : decode cX11_fewest 35 = .ok (.aload_n 0, 1) := by decide +kernel
theorem dX11_fewest_36 : decode cX11_fewest 36 = .ok (.iload_n 2, 1) := by decide +kernel
theorem dX11_fewest_37 : decode cX11_fewest 37 = .ok (.invokestatic 312, 3) := by decide +kernel
theorem dX11_fewest_40 : decode cX11_fewest 40 = .ok (.invokevirtual 103, 3) := by decide +kernel
theorem dX11_fewest_43 : decode cX11_fewest 43 = .ok (.ireturn, 1) := by decide +kernel
theorem dX11_fewestSet_0 : decode cX11_fewestSet 0 = .ok (.aload_n 0, 1) := by decide +kernel
theorem dX11_fewestSet_1 : decode cX11_fewestSet 1 = .ok (.iload_n 1, 1) := by decide +kernel
theorem dX11_fewestSet_2 : decode cX11_fewestSet 2 = .ok (.i2l, 1) := by decide +kernel
theorem dX11_fewestSet_3 : decode cX11_fewestSet 3 = .ok (.invokevirtual 361, 3) := by decide +kernel
theorem dX11_fewestSet_6 : decode cX11_fewestSet 6 = .ok (.ifCond .ne 9, 3) := by decide +kernel
theorem dX11_fewestSet_9 : decode cX11_fewestSet 9 = .ok (.aload_n 0, 1) := by decide +kernel
theorem dX11_fewestSet_10 : decode cX11_fewestSet 10 = .ok (.iconst 1, 1) := by decide +kernel
theorem dX11_fewestSet_11 : decode cX11_fewestSet 11 = .ok (.invokevirtual 99, 3) := by decide +kernel
theorem dX11_fewestSet_14 : decode cX11_fewestSet 14 = .ok (.ireturn, 1) := by decide +kernel
theorem dX11_fewestSet_15 : decode cX11_fewestSet 15 = .ok (.aload_n 0, 1) := by decide +kernel
theorem dX11_fewestSet_16 : decode cX11_fewestSet 16 = .ok (.aload_n 0, 1) := by decide +kernel
theorem dX11_fewestSet_17 : decode cX11_fewestSet 17 = .ok (.iload_n 1, 1) := by decide +kernel
theorem dX11_fewestSet_18 : decode cX11_fewestSet 18 = .ok (.invokevirtual 386, 3) := by decide +kernel
theorem dX11_fewestSet_21 : decode cX11_fewestSet 21 = .ok (.invokevirtual 389, 3) := by decide +kernel
theorem dX11_fewestSet_24 : decode cX11_fewestSet 24 = .ok (.ireturn, 1) := by decide +kernel
theorem dX11_laysTree_0 : decode cX11_laysTree 0 = .ok (.aload_n 0, 1) := by decide +kernel
theorem dX11_laysTree_1 : decode cX11_laysTree 1 = .ok (.getfield 59, 3) := by decide +kernel
theorem dX11_laysTree_4 : decode cX11_laysTree 4 = .ok (.iload_n 1, 1) := by decide +kernel
theorem dX11_laysTree_5 : decode cX11_laysTree 5 = .ok (.iload_n 1, 1) := by decide +kernel
theorem dX11_laysTree_6 : decode cX11_laysTree 6 = .ok (.invokestatic 312, 3) := by decide +kernel
theorem dX11_laysTree_9 : decode cX11_laysTree 9 = .ok (.iconst 1, 1) := by decide +kernel
theorem dX11_laysTree_10 : decode cX11_laysTree 10 = .ok (.if_icmp .ne 7, 3) := by decide +kernel
theorem dX11_laysTree_13 : decode cX11_laysTree 13 = .ok (.iconst 0, 1) := by decide +kernel
theorem dX11_laysTree_14 : decode cX11_laysTree 14 = .ok (.goto 6, 3) := by decide +kernel
theorem dX11_laysTree_17 : decode cX11_laysTree 17 = .ok (.ldc_w 392, 3) := by decide +kernel
theorem dX11_laysTree_20 : decode cX11_laysTree 20 = .ok (.iastore, 1) := by decide +kernel
theorem dX11_laysTree_21 : decode cX11_laysTree 21 = .ok (.aload_n 0, 1) := by decide +kernel
theorem dX11_laysTree_22 : decode cX11_laysTree 22 = .ok (.getfield 62, 3) := by decide +kernel
theorem dX11_laysTree_25 : decode cX11_laysTree 25 = .ok (.iload_n 1, 1) := by decide +kernel
theorem dX11_laysTree_26 : decode cX11_laysTree 26 = .ok (.iconst (-1), 1) := by decide +kernel
theorem dX11_laysTree_27 : decode cX11_laysTree 27 = .ok (.iastore, 1) := by decide +kernel
theorem dX11_laysTree_28 : decode cX11_laysTree 28 = .ok (.iconst 0, 1) := by decide +kernel
theorem dX11_laysTree_29 : decode cX11_laysTree 29 = .ok (.istore_n 3, 1) := by decide +kernel
theorem dX11_laysTree_30 : decode cX11_laysTree 30 = .ok (.iload_n 3, 1) := by decide +kernel
theorem dX11_laysTree_31 : decode cX11_laysTree 31 = .ok (.aload_n 0, 1) := by decide +kernel
theorem dX11_laysTree_32 : decode cX11_laysTree 32 = .ok (.getfield 7, 3) := by decide +kernel
theorem dX11_laysTree_35 : decode cX11_laysTree 35 = .ok (.iconst 2, 1) := by decide +kernel
theorem dX11_laysTree_36 : decode cX11_laysTree 36 = .ok (.iaload, 1) := by decide +kernel
theorem dX11_laysTree_37 : decode cX11_laysTree 37 = .ok (.if_icmp .ge 158, 3) := by decide +kernel
theorem dX11_laysTree_40 : decode cX11_laysTree 40 = .ok (.iload_n 1, 1) := by decide +kernel
theorem dX11_laysTree_41 : decode cX11_laysTree 41 = .ok (.aload_n 0, 1) := by decide +kernel
theorem dX11_laysTree_42 : decode cX11_laysTree 42 = .ok (.iload_n 3, 1) := by decide +kernel
theorem dX11_laysTree_43 : decode cX11_laysTree 43 = .ok (.invokevirtual 303, 3) := by decide +kernel
theorem dX11_laysTree_46 : decode cX11_laysTree 46 = .ok (.iand, 1) := by decide +kernel
theorem dX11_laysTree_47 : decode cX11_laysTree 47 = .ok (.istore 4, 2) := by decide +kernel
theorem dX11_laysTree_49 : decode cX11_laysTree 49 = .ok (.iload_n 1, 1) := by decide +kernel
theorem dX11_laysTree_50 : decode cX11_laysTree 50 = .ok (.aload_n 0, 1) := by decide +kernel
theorem dX11_laysTree_51 : decode cX11_laysTree 51 = .ok (.iload_n 3, 1) := by decide +kernel
theorem dX11_laysTree_52 : decode cX11_laysTree 52 = .ok (.invokevirtual 303, 3) := by decide +kernel
theorem dX11_laysTree_55 : decode cX11_laysTree 55 = .ok (.iconst (-1), 1) := by decide +kernel
theorem dX11_laysTree_56 : decode cX11_laysTree 56 = .ok (.ixor, 1) := by decide +kernel
theorem dX11_laysTree_57 : decode cX11_laysTree 57 = .ok (.iand, 1) := by decide +kernel
theorem dX11_laysTree_58 : decode cX11_laysTree 58 = .ok (.istore 5, 2) := by decide +kernel
theorem dX11_laysTree_60 : decode cX11_laysTree 60 = .ok (.iload 4, 2) := by decide +kernel
theorem dX11_laysTree_62 : decode cX11_laysTree 62 = .ok (.ifCond .eq 127, 3) := by decide +kernel
theorem dX11_laysTree_65 : decode cX11_laysTree 65 = .ok (.iload 5, 2) := by decide +kernel
theorem dX11_laysTree_67 : decode cX11_laysTree 67 = .ok (.ifCond .eq 122, 3) := by decide +kernel
theorem dX11_laysTree_70 : decode cX11_laysTree 70 = .ok (.aload_n 0, 1) := by decide +kernel
theorem dX11_laysTree_71 : decode cX11_laysTree 71 = .ok (.getfield 59, 3) := by decide +kernel
theorem dX11_laysTree_74 : decode cX11_laysTree 74 = .ok (.iload 4, 2) := by decide +kernel
theorem dX11_laysTree_76 : decode cX11_laysTree 76 = .ok (.iaload, 1) := by decide +kernel
theorem dX11_laysTree_77 : decode cX11_laysTree 77 = .ok (.ldc_w 392, 3) := by decide +kernel
theorem dX11_laysTree_80 : decode cX11_laysTree 80 = .ok (.if_icmp .ge 109, 3) := by decide +kernel
theorem dX11_laysTree_83 : decode cX11_laysTree 83 = .ok (.aload_n 0, 1) := by decide +kernel
theorem dX11_laysTree_84 : decode cX11_laysTree 84 = .ok (.getfield 59, 3) := by decide +kernel
theorem dX11_laysTree_87 : decode cX11_laysTree 87 = .ok (.iload 5, 2) := by decide +kernel
theorem dX11_laysTree_89 : decode cX11_laysTree 89 = .ok (.iaload, 1) := by decide +kernel
theorem dX11_laysTree_90 : decode cX11_laysTree 90 = .ok (.ldc_w 392, 3) := by decide +kernel
theorem dX11_laysTree_93 : decode cX11_laysTree 93 = .ok (.if_icmp .lt 6, 3) := by decide +kernel
theorem dX11_laysTree_96 : decode cX11_laysTree 96 = .ok (.goto 93, 3) := by decide +kernel
theorem dX11_laysTree_99 : decode cX11_laysTree 99 = .ok (.iload_n 2, 1) := by decide +kernel
theorem dX11_laysTree_100 : decode cX11_laysTree 100 = .ok (.ifCond .eq 25, 3) := by decide +kernel
theorem dX11_laysTree_103 : decode cX11_laysTree 103 = .ok (.iconst 1, 1) := by decide +kernel
theorem dX11_laysTree_104 : decode cX11_laysTree 104 = .ok (.aload_n 0, 1) := by decide +kernel
theorem dX11_laysTree_105 : decode cX11_laysTree 105 = .ok (.getfield 59, 3) := by decide +kernel
theorem dX11_laysTree_108 : decode cX11_laysTree 108 = .ok (.iload 4, 2) := by decide +kernel
theorem dX11_laysTree_110 : decode cX11_laysTree 110 = .ok (.iaload, 1) := by decide +kernel
theorem dX11_laysTree_111 : decode cX11_laysTree 111 = .ok (.aload_n 0, 1) := by decide +kernel
theorem dX11_laysTree_112 : decode cX11_laysTree 112 = .ok (.getfield 59, 3) := by decide +kernel
theorem dX11_laysTree_115 : decode cX11_laysTree 115 = .ok (.iload 5, 2) := by decide +kernel
theorem dX11_laysTree_117 : decode cX11_laysTree 117 = .ok (.iaload, 1) := by decide +kernel
theorem dX11_laysTree_118 : decode cX11_laysTree 118 = .ok (.invokestatic 345, 3) := by decide +kernel
theorem dX11_laysTree_121 : decode cX11_laysTree 121 = .ok (.iadd, 1) := by decide +kernel
theorem dX11_laysTree_122 : decode cX11_laysTree 122 = .ok (.goto 36, 3) := by decide +kernel
theorem dX11_laysTree_125 : decode cX11_laysTree 125 = .ok (.aload_n 0, 1) := by decide +kernel
theorem dX11_laysTree_126 : decode cX11_laysTree 126 = .ok (.getfield 7, 3) := by decide +kernel
theorem dX11_laysTree_129 : decode cX11_laysTree 129 = .ok (.iload_n 3, 1) := by decide +kernel
theorem dX11_laysTree_130 : decode cX11_laysTree 130 = .ok (.invokestatic 230, 3) := by decide +kernel
theorem dX11_laysTree_133 : decode cX11_laysTree 133 = .ok (.iconst 1, 1) := by decide +kernel
theorem dX11_laysTree_134 : decode cX11_laysTree 134 = .ok (.iadd, 1) := by decide +kernel
theorem dX11_laysTree_135 : decode cX11_laysTree 135 = .ok (.iaload, 1) := by decide +kernel
theorem dX11_laysTree_136 : decode cX11_laysTree 136 = .ok (.aload_n 0, 1) := by decide +kernel
theorem dX11_laysTree_137 : decode cX11_laysTree 137 = .ok (.iload_n 1, 1) := by decide +kernel
theorem dX11_laysTree_138 : decode cX11_laysTree 138 = .ok (.invokevirtual 393, 3) := by decide +kernel
theorem dX11_laysTree_141 : decode cX11_laysTree 141 = .ok (.imul, 1) := by decide +kernel
theorem dX11_laysTree_142 : decode cX11_laysTree 142 = .ok (.aload_n 0, 1) := by decide +kernel
theorem dX11_laysTree_143 : decode cX11_laysTree 143 = .ok (.getfield 59, 3) := by decide +kernel
theorem dX11_laysTree_146 : decode cX11_laysTree 146 = .ok (.iload 4, 2) := by decide +kernel
theorem dX11_laysTree_148 : decode cX11_laysTree 148 = .ok (.iaload, 1) := by decide +kernel
theorem dX11_laysTree_149 : decode cX11_laysTree 149 = .ok (.iadd, 1) := by decide +kernel
theorem dX11_laysTree_150 : decode cX11_laysTree 150 = .ok (.aload_n 0, 1) := by decide +kernel
theorem dX11_laysTree_151 : decode cX11_laysTree 151 = .ok (.getfield 59, 3) := by decide +kernel
theorem dX11_laysTree_154 : decode cX11_laysTree 154 = .ok (.iload 5, 2) := by decide +kernel
theorem dX11_laysTree_156 : decode cX11_laysTree 156 = .ok (.iaload, 1) := by decide +kernel
theorem dX11_laysTree_157 : decode cX11_laysTree 157 = .ok (.iadd, 1) := by decide +kernel
theorem dX11_laysTree_158 : decode cX11_laysTree 158 = .ok (.istore 6, 2) := by decide +kernel
theorem dX11_laysTree_160 : decode cX11_laysTree 160 = .ok (.iload 6, 2) := by decide +kernel
theorem dX11_laysTree_162 : decode cX11_laysTree 162 = .ok (.aload_n 0, 1) := by decide +kernel
theorem dX11_laysTree_163 : decode cX11_laysTree 163 = .ok (.getfield 59, 3) := by decide +kernel
theorem dX11_laysTree_166 : decode cX11_laysTree 166 = .ok (.iload_n 1, 1) := by decide +kernel
theorem dX11_laysTree_167 : decode cX11_laysTree 167 = .ok (.iaload, 1) := by decide +kernel
theorem dX11_laysTree_168 : decode cX11_laysTree 168 = .ok (.if_icmp .lt 6, 3) := by decide +kernel
theorem dX11_laysTree_171 : decode cX11_laysTree 171 = .ok (.goto 18, 3) := by decide +kernel
theorem dX11_laysTree_174 : decode cX11_laysTree 174 = .ok (.aload_n 0, 1) := by decide +kernel
theorem dX11_laysTree_175 : decode cX11_laysTree 175 = .ok (.getfield 59, 3) := by decide +kernel
theorem dX11_laysTree_178 : decode cX11_laysTree 178 = .ok (.iload_n 1, 1) := by decide +kernel
theorem dX11_laysTree_179 : decode cX11_laysTree 179 = .ok (.iload 6, 2) := by decide +kernel
theorem dX11_laysTree_181 : decode cX11_laysTree 181 = .ok (.iastore, 1) := by decide +kernel
theorem dX11_laysTree_182 : decode cX11_laysTree 182 = .ok (.aload_n 0, 1) := by decide +kernel
theorem dX11_laysTree_183 : decode cX11_laysTree 183 = .ok (.getfield 62, 3) := by decide +kernel
theorem dX11_laysTree_186 : decode cX11_laysTree 186 = .ok (.iload_n 1, 1) := by decide +kernel
theorem dX11_laysTree_187 : decode cX11_laysTree 187 = .ok (.iload_n 3, 1) := by decide +kernel
theorem dX11_laysTree_188 : decode cX11_laysTree 188 = .ok (.iastore, 1) := by decide +kernel
theorem dX11_laysTree_189 : decode cX11_laysTree 189 = .ok (.iinc 3 1, 3) := by decide +kernel
theorem dX11_laysTree_192 : decode cX11_laysTree 192 = .ok (.goto (-162), 3) := by decide +kernel
theorem dX11_laysTree_195 : decode cX11_laysTree 195 = .ok (.return_, 1) := by decide +kernel
theorem dX11_laysTrees_0 : decode cX11_laysTrees 0 = .ok (.iconst 1, 1) := by decide +kernel
theorem dX11_laysTrees_1 : decode cX11_laysTrees 1 = .ok (.istore_n 2, 1) := by decide +kernel
theorem dX11_laysTrees_2 : decode cX11_laysTrees 2 = .ok (.iload_n 2, 1) := by decide +kernel
theorem dX11_laysTrees_3 : decode cX11_laysTrees 3 = .ok (.aload_n 0, 1) := by decide +kernel
theorem dX11_laysTrees_4 : decode cX11_laysTrees 4 = .ok (.invokevirtual 296, 3) := by decide +kernel
theorem dX11_laysTrees_7 : decode cX11_laysTrees 7 = .ok (.if_icmp .gt 15, 3) := by decide +kernel
theorem dX11_laysTrees_10 : decode cX11_laysTrees 10 = .ok (.aload_n 0, 1) := by decide +kernel
theorem dX11_laysTrees_11 : decode cX11_laysTrees 11 = .ok (.iload_n 2, 1) := by decide +kernel
theorem dX11_laysTrees_12 : decode cX11_laysTrees 12 = .ok (.iload_n 1, 1) := by decide +kernel
theorem dX11_laysTrees_13 : decode cX11_laysTrees 13 = .ok (.invokevirtual 396, 3) := by decide +kernel
theorem dX11_laysTrees_16 : decode cX11_laysTrees 16 = .ok (.iinc 2 1, 3) := by decide +kernel
theorem dX11_laysTrees_19 : decode cX11_laysTrees 19 = .ok (.goto (-17), 3) := by decide +kernel
theorem dX11_laysTrees_22 : decode cX11_laysTrees 22 = .ok (.return_, 1) := by decide +kernel
theorem dX11_leastTree_0 : decode cX11_leastTree 0 = .ok (.aload_n 0, 1) := by decide +kernel
theorem dX11_leastTree_1 : decode cX11_leastTree 1 = .ok (.iload_n 1, 1) := by decide +kernel
theorem dX11_leastTree_2 : decode cX11_leastTree 2 = .ok (.i2l, 1) := by decide +kernel
theorem dX11_leastTree_3 : decode cX11_leastTree 3 = .ok (.invokevirtual 361, 3) := by decide +kernel
theorem dX11_leastTree_6 : decode cX11_leastTree 6 = .ok (.ifCond .eq 7, 3) := by decide +kernel
theorem dX11_leastTree_9 : decode cX11_leastTree 9 = .ok (.iload_n 1, 1) := by decide +kernel
theorem dX11_leastTree_10 : decode cX11_leastTree 10 = .ok (.ifCond .ne 9, 3) := by decide +kernel
theorem dX11_leastTree_13 : decode cX11_leastTree 13 = .ok (.aload_n 0, 1) := by decide +kernel
theorem dX11_leastTree_14 : decode cX11_leastTree 14 = .ok (.iconst 1, 1) := by decide +kernel
theorem dX11_leastTree_15 : decode cX11_leastTree 15 = .ok (.invokevirtual 99, 3) := by decide +kernel
theorem dX11_leastTree_18 : decode cX11_leastTree 18 = .ok (.ireturn, 1) := by decide +kernel
theorem dX11_leastTree_19 : decode cX11_leastTree 19 = .ok (.aload_n 0, 1) := by decide +kernel
theorem dX11_leastTree_20 : decode cX11_leastTree 20 = .ok (.iload_n 2, 1) := by decide +kernel
theorem dX11_leastTree_21 : decode cX11_leastTree 21 = .ok (.invokevirtual 400, 3) := by decide +kernel
theorem dX11_leastTree_24 : decode cX11_leastTree 24 = .ok (.aload_n 0, 1) := by decide +kernel
theorem dX11_leastTree_25 : decode cX11_leastTree 25 = .ok (.getfield 59, 3) := by decide +kernel
theorem dX11_leastTree_28 : decode cX11_leastTree 28 = .ok (.iload_n 1, 1) := by decide +kernel
theorem dX11_leastTree_29 : decode cX11_leastTree 29 = .ok (.iaload, 1) := by decide +kernel
theorem dX11_leastTree_30 : decode cX11_leastTree 30 = .ok (.ldc_w 392, 3) := by decide +kernel
theorem dX11_leastTree_33 : decode cX11_leastTree 33 = .ok (.if_icmp .lt 12, 3) := by decide +kernel
theorem dX11_leastTree_36 : decode cX11_leastTree 36 = .ok (.aload_n 0, 1) := by decide +kernel
theorem dX11_leastTree_37 : decode cX11_leastTree 37 = .ok (.bipush 6, 2) := by decide +kernel
theorem dX11_leastTree_39 : decode cX11_leastTree 39 = .ok (.invokevirtual 99, 3) := by decide +kernel
theorem dX11_leastTree_42 : decode cX11_leastTree 42 = .ok (.goto 13, 3) := by decide +kernel
theorem dX11_leastTree_45 : decode cX11_leastTree 45 = .ok (.aload_n 0, 1) := by decide +kernel
theorem dX11_leastTree_46 : decode cX11_leastTree 46 = .ok (.aload_n 0, 1) := by decide +kernel
theorem dX11_leastTree_47 : decode cX11_leastTree 47 = .ok (.getfield 59, 3) := by decide +kernel
theorem dX11_leastTree_50 : decode cX11_leastTree 50 = .ok (.iload_n 1, 1) := by decide +kernel
theorem dX11_leastTree_51 : decode cX11_leastTree 51 = .ok (.iaload, 1) := by decide +kernel
theorem dX11_leastTree_52 : decode cX11_leastTree 52 = .ok (.invokevirtual 103, 3) := by decide +kernel
theorem dX11_leastTree_55 : decode cX11_leastTree 55 = .ok (.ireturn, 1) := by decide +kernel
theorem dX11_askedFirst_0 : decode cX11_askedFirst 0 = .ok (.aload_n 0, 1) := by decide +kernel
theorem dX11_askedFirst_1 : decode cX11_askedFirst 1 = .ok (.iload_n 1, 1) := by decide +kernel
theorem dX11_askedFirst_2 : decode cX11_askedFirst 2 = .ok (.i2l, 1) := by decide +kernel
theorem dX11_askedFirst_3 : decode cX11_askedFirst 3 = .ok (.invokevirtual 361, 3) := by decide +kernel
theorem dX11_askedFirst_6 : decode cX11_askedFirst 6 = .ok (.ifCond .eq 7, 3) := by decide +kernel
theorem dX11_askedFirst_9 : decode cX11_askedFirst 9 = .ok (.iload_n 1, 1) := by decide +kernel
theorem dX11_askedFirst_10 : decode cX11_askedFirst 10 = .ok (.ifCond .ne 9, 3) := by decide +kernel
theorem dX11_askedFirst_13 : decode cX11_askedFirst 13 = .ok (.aload_n 0, 1) := by decide +kernel
theorem dX11_askedFirst_14 : decode cX11_askedFirst 14 = .ok (.iconst 1, 1) := by decide +kernel
theorem dX11_askedFirst_15 : decode cX11_askedFirst 15 = .ok (.invokevirtual 99, 3) := by decide +kernel
theorem dX11_askedFirst_18 : decode cX11_askedFirst 18 = .ok (.ireturn, 1) := by decide +kernel
theorem dX11_askedFirst_19 : decode cX11_askedFirst 19 = .ok (.aload_n 0, 1) := by decide +kernel
theorem dX11_askedFirst_20 : decode cX11_askedFirst 20 = .ok (.iload_n 2, 1) := by decide +kernel
theorem dX11_askedFirst_21 : decode cX11_askedFirst 21 = .ok (.invokevirtual 400, 3) := by decide +kernel
theorem dX11_askedFirst_24 : decode cX11_askedFirst 24 = .ok (.aload_n 0, 1) := by decide +kernel
theorem dX11_askedFirst_25 : decode cX11_askedFirst 25 = .ok (.aload_n 0, 1) := by decide +kernel
theorem dX11_askedFirst_26 : decode cX11_askedFirst 26 = .ok (.getfield 62, 3) := by decide +kernel
theorem dX11_askedFirst_29 : decode cX11_askedFirst 29 = .ok (.iload_n 1, 1) := by decide +kernel
theorem dX11_askedFirst_30 : decode cX11_askedFirst 30 = .ok (.iaload, 1) := by decide +kernel
theorem dX11_askedFirst_31 : decode cX11_askedFirst 31 = .ok (.invokevirtual 389, 3) := by decide +kernel
theorem dX11_askedFirst_34 : decode cX11_askedFirst 34 = .ok (.ireturn, 1) := by decide +kernel
theorem dX11_deep_0 : decode cX11_deep 0 = .ok (.aload_n 0, 1) := by decide +kernel
theorem dX11_deep_1 : decode cX11_deep 1 = .ok (.iload_n 1, 1) := by decide +kernel
theorem dX11_deep_2 : decode cX11_deep 2 = .ok (.iconst 1, 1) := by decide +kernel
theorem dX11_deep_3 : decode cX11_deep 3 = .ok (.invokevirtual 404, 3) := by decide +kernel
theorem dX11_deep_6 : decode cX11_deep 6 = .ok (.ireturn, 1) := by decide +kernel
theorem dX11_askDeep_0 : decode cX11_askDeep 0 = .ok (.aload_n 0, 1) := by decide +kernel
theorem dX11_askDeep_1 : decode cX11_askDeep 1 = .ok (.iload_n 1, 1) := by decide +kernel
theorem dX11_askDeep_2 : decode cX11_askDeep 2 = .ok (.iconst 1, 1) := by decide +kernel
theorem dX11_askDeep_3 : decode cX11_askDeep 3 = .ok (.invokevirtual 408, 3) := by decide +kernel
theorem dX11_askDeep_6 : decode cX11_askDeep 6 = .ok (.ireturn, 1) := by decide +kernel
theorem dX11_dear_0 : decode cX11_dear 0 = .ok (.aload_n 0, 1) := by decide +kernel
theorem dX11_dear_1 : decode cX11_dear 1 = .ok (.iload_n 1, 1) := by decide +kernel
theorem dX11_dear_2 : decode cX11_dear 2 = .ok (.iconst 0, 1) := by decide +kernel
theorem dX11_dear_3 : decode cX11_dear 3 = .ok (.invokevirtual 404, 3) := by decide +kernel
theorem dX11_dear_6 : decode cX11_dear 6 = .ok (.ireturn, 1) := by decide +kernel
theorem dX11_askDear_0 : decode cX11_askDear 0 = .ok (.aload_n 0, 1) := by decide +kernel
theorem dX11_askDear_1 : decode cX11_askDear 1 = .ok (.iload_n 1, 1) := by decide +kernel
theorem dX11_askDear_2 : decode cX11_askDear 2 = .ok (.iconst 0, 1) := by decide +kernel
theorem dX11_askDear_3 : decode cX11_askDear 3 = .ok (.invokevirtual 408, 3) := by decide +kernel
theorem dX11_askDear_6 : decode cX11_askDear 6 = .ok (.ireturn, 1) := by decide +kernel
theorem dX11_wrongTold_0 : decode cX11_wrongTold 0 = .ok (.iload_n 1, 1) := by decide +kernel
theorem dX11_wrongTold_1 : decode cX11_wrongTold 1 = .ok (.invokestatic 110, 3) := by decide +kernel
theorem dX11_wrongTold_4 : decode cX11_wrongTold 4 = .ok (.ifCond .eq 15, 3) := by decide +kernel
theorem dX11_wrongTold_7 : decode cX11_wrongTold 7 = .ok (.iload_n 2, 1) := by decide +kernel
theorem dX11_wrongTold_8 : decode cX11_wrongTold 8 = .ok (.i2l, 1) := by decide +kernel
theorem dX11_wrongTold_9 : decode cX11_wrongTold 9 = .ok (.lconst 0, 1) := by decide +kernel
theorem dX11_wrongTold_10 : decode cX11_wrongTold 10 = .ok (.ldc2_w 359, 3) := by decide +kernel
theorem dX11_wrongTold_13 : decode cX11_wrongTold 13 = .ok (.invokestatic 299, 3) := by decide +kernel
theorem dX11_wrongTold_16 : decode cX11_wrongTold 16 = .ok (.ifCond .ne 5, 3) := by decide +kernel
theorem dX11_wrongTold_19 : decode cX11_wrongTold 19 = .ok (.iconst 1, 1) := by decide +kernel
theorem dX11_wrongTold_20 : decode cX11_wrongTold 20 = .ok (.ireturn, 1) := by decide +kernel
theorem dX11_wrongTold_21 : decode cX11_wrongTold 21 = .ok (.aload_n 0, 1) := by decide +kernel
theorem dX11_wrongTold_22 : decode cX11_wrongTold 22 = .ok (.getfield 24, 3) := by decide +kernel
theorem dX11_wrongTold_25 : decode cX11_wrongTold 25 = .ok (.iload_n 1, 1) := by decide +kernel
theorem dX11_wrongTold_26 : decode cX11_wrongTold 26 = .ok (.iaload, 1) := by decide +kernel
theorem dX11_wrongTold_27 : decode cX11_wrongTold 27 = .ok (.iconst (-1), 1) := by decide +kernel
theorem dX11_wrongTold_28 : decode cX11_wrongTold 28 = .ok (.if_icmp .ne 5, 3) := by decide +kernel
theorem dX11_wrongTold_31 : decode cX11_wrongTold 31 = .ok (.iconst 2, 1) := by decide +kernel
theorem dX11_wrongTold_32 : decode cX11_wrongTold 32 = .ok (.ireturn, 1) := by decide +kernel
theorem dX11_wrongTold_33 : decode cX11_wrongTold 33 = .ok (.aload_n 0, 1) := by decide +kernel
theorem dX11_wrongTold_34 : decode cX11_wrongTold 34 = .ok (.getfield 24, 3) := by decide +kernel
theorem dX11_wrongTold_37 : decode cX11_wrongTold 37 = .ok (.iload_n 1, 1) := by decide +kernel
theorem dX11_wrongTold_38 : decode cX11_wrongTold 38 = .ok (.iaload, 1) := by decide +kernel
theorem dX11_wrongTold_39 : decode cX11_wrongTold 39 = .ok (.iconst 2, 1) := by decide +kernel
theorem dX11_wrongTold_40 : decode cX11_wrongTold 40 = .ok (.iload_n 2, 1) := by decide +kernel
theorem dX11_wrongTold_41 : decode cX11_wrongTold 41 = .ok (.imul, 1) := by decide +kernel
theorem dX11_wrongTold_42 : decode cX11_wrongTold 42 = .ok (.if_icmp .ge 5, 3) := by decide +kernel
theorem dX11_wrongTold_45 : decode cX11_wrongTold 45 = .ok (.iconst 3, 1) := by decide +kernel
theorem dX11_wrongTold_46 : decode cX11_wrongTold 46 = .ok (.ireturn, 1) := by decide +kernel
theorem dX11_wrongTold_47 : decode cX11_wrongTold 47 = .ok (.iconst 0, 1) := by decide +kernel
theorem dX11_wrongTold_48 : decode cX11_wrongTold 48 = .ok (.istore_n 3, 1) := by decide +kernel
theorem dX11_wrongTold_49 : decode cX11_wrongTold 49 = .ok (.iload_n 3, 1) := by decide +kernel
theorem dX11_wrongTold_50 : decode cX11_wrongTold 50 = .ok (.iload_n 2, 1) := by decide +kernel
theorem dX11_wrongTold_51 : decode cX11_wrongTold 51 = .ok (.if_icmp .ge 61, 3) := by decide +kernel
theorem dX11_wrongTold_54 : decode cX11_wrongTold 54 = .ok (.bipush 60, 2) := by decide +kernel
theorem dX11_wrongTold_56 : decode cX11_wrongTold 56 = .ok (.iload_n 1, 1) := by decide +kernel
theorem dX11_wrongTold_57 : decode cX11_wrongTold 57 = .ok (.imul, 1) := by decide +kernel
theorem dX11_wrongTold_58 : decode cX11_wrongTold 58 = .ok (.iconst 2, 1) := by decide +kernel
theorem dX11_wrongTold_59 : decode cX11_wrongTold 59 = .ok (.iload_n 3, 1) := by decide +kernel
theorem dX11_wrongTold_60 : decode cX11_wrongTold 60 = .ok (.imul, 1) := by decide +kernel
theorem dX11_wrongTold_61 : decode cX11_wrongTold 61 = .ok (.iadd, 1) := by decide +kernel
theorem dX11_wrongTold_62 : decode cX11_wrongTold 62 = .ok (.istore 4, 2) := by decide +kernel
theorem dX11_wrongTold_64 : decode cX11_wrongTold 64 = .ok (.aload_n 0, 1) := by decide +kernel
theorem dX11_wrongTold_65 : decode cX11_wrongTold 65 = .ok (.getfield 27, 3) := by decide +kernel
theorem dX11_wrongTold_68 : decode cX11_wrongTold 68 = .ok (.iload 4, 2) := by decide +kernel
theorem dX11_wrongTold_70 : decode cX11_wrongTold 70 = .ok (.laload, 1) := by decide +kernel
theorem dX11_wrongTold_71 : decode cX11_wrongTold 71 = .ok (.lconst 0, 1) := by decide +kernel
theorem dX11_wrongTold_72 : decode cX11_wrongTold 72 = .ok (.aload_n 0, 1) := by decide +kernel
theorem dX11_wrongTold_73 : decode cX11_wrongTold 73 = .ok (.getfield 7, 3) := by decide +kernel
theorem dX11_wrongTold_76 : decode cX11_wrongTold 76 = .ok (.iconst 2, 1) := by decide +kernel
theorem dX11_wrongTold_77 : decode cX11_wrongTold 77 = .ok (.iaload, 1) := by decide +kernel
theorem dX11_wrongTold_78 : decode cX11_wrongTold 78 = .ok (.i2l, 1) := by decide +kernel
theorem dX11_wrongTold_79 : decode cX11_wrongTold 79 = .ok (.lconst 1, 1) := by decide +kernel
theorem dX11_wrongTold_80 : decode cX11_wrongTold 80 = .ok (.lsub, 1) := by decide +kernel
theorem dX11_wrongTold_81 : decode cX11_wrongTold 81 = .ok (.invokestatic 299, 3) := by decide +kernel
theorem dX11_wrongTold_84 : decode cX11_wrongTold 84 = .ok (.ifCond .eq 20, 3) := by decide +kernel
theorem dX11_wrongTold_87 : decode cX11_wrongTold 87 = .ok (.aload_n 0, 1) := by decide +kernel
theorem dX11_wrongTold_88 : decode cX11_wrongTold 88 = .ok (.getfield 27, 3) := by decide +kernel
theorem dX11_wrongTold_91 : decode cX11_wrongTold 91 = .ok (.iload 4, 2) := by decide +kernel
theorem dX11_wrongTold_93 : decode cX11_wrongTold 93 = .ok (.iconst 1, 1) := by decide +kernel
theorem dX11_wrongTold_94 : decode cX11_wrongTold 94 = .ok (.iadd, 1) := by decide +kernel
theorem dX11_wrongTold_95 : decode cX11_wrongTold 95 = .ok (.laload, 1) := by decide +kernel
theorem dX11_wrongTold_96 : decode cX11_wrongTold 96 = .ok (.lconst 0, 1) := by decide +kernel
theorem dX11_wrongTold_97 : decode cX11_wrongTold 97 = .ok (.lconst 1, 1) := by decide +kernel
theorem dX11_wrongTold_98 : decode cX11_wrongTold 98 = .ok (.invokestatic 299, 3) := by decide +kernel
theorem dX11_wrongTold_101 : decode cX11_wrongTold 101 = .ok (.ifCond .ne 5, 3) := by decide +kernel
theorem dX11_wrongTold_104 : decode cX11_wrongTold 104 = .ok (.iconst 5, 1) := by decide +kernel
theorem dX11_wrongTold_105 : decode cX11_wrongTold 105 = .ok (.ireturn, 1) := by decide +kernel
theorem dX11_wrongTold_106 : decode cX11_wrongTold 106 = .ok (.iinc 3 1, 3) := by decide +kernel
theorem dX11_wrongTold_109 : decode cX11_wrongTold 109 = .ok (.goto (-60), 3) := by decide +kernel
theorem dX11_wrongTold_112 : decode cX11_wrongTold 112 = .ok (.iconst 0, 1) := by decide +kernel
theorem dX11_wrongTold_113 : decode cX11_wrongTold 113 = .ok (.ireturn, 1) := by decide +kernel
theorem dX11_fitting_0 : decode cX11_fitting 0 = .ok (.aload_n 0, 1) := by decide +kernel
theorem dX11_fitting_1 : decode cX11_fitting 1 = .ok (.invokevirtual 296, 3) := by decide +kernel
theorem dX11_fitting_4 : decode cX11_fitting 4 = .ok (.istore_n 3, 1) := by decide +kernel
theorem dX11_fitting_5 : decode cX11_fitting 5 = .ok (.iconst 0, 1) := by decide +kernel
theorem dX11_fitting_6 : decode cX11_fitting 6 = .ok (.istore 4, 2) := by decide +kernel
theorem dX11_fitting_8 : decode cX11_fitting 8 = .ok (.iload 4, 2) := by decide +kernel
theorem dX11_fitting_10 : decode cX11_fitting 10 = .ok (.iload_n 2, 1) := by decide +kernel
theorem dX11_fitting_11 : decode cX11_fitting 11 = .ok (.if_icmp .ge 60, 3) := by decide +kernel
theorem dX11_fitting_14 : decode cX11_fitting 14 = .ok (.bipush 60, 2) := by decide +kernel
theorem dX11_fitting_16 : decode cX11_fitting 16 = .ok (.iload_n 1, 1) := by decide +kernel
theorem dX11_fitting_17 : decode cX11_fitting 17 = .ok (.imul, 1) := by decide +kernel
theorem dX11_fitting_18 : decode cX11_fitting 18 = .ok (.iconst 2, 1) := by decide +kernel
theorem dX11_fitting_19 : decode cX11_fitting 19 = .ok (.iload 4, 2) := by decide +kernel
theorem dX11_fitting_21 : decode cX11_fitting 21 = .ok (.imul, 1) := by decide +kernel
theorem dX11_fitting_22 : decode cX11_fitting 22 = .ok (.iadd, 1) := by decide +kernel
theorem dX11_fitting_23 : decode cX11_fitting 23 = .ok (.istore 5, 2) := by decide +kernel
theorem dX11_fitting_25 : decode cX11_fitting 25 = .ok (.aload_n 0, 1) := by decide +kernel
theorem dX11_fitting_26 : decode cX11_fitting 26 = .ok (.aload_n 0, 1) := by decide +kernel
theorem dX11_fitting_27 : decode cX11_fitting 27 = .ok (.getfield 27, 3) := by decide +kernel
theorem dX11_fitting_30 : decode cX11_fitting 30 = .ok (.iload 5, 2) := by decide +kernel
theorem dX11_fitting_32 : decode cX11_fitting 32 = .ok (.laload, 1) := by decide +kernel
theorem dX11_fitting_33 : decode cX11_fitting 33 = .ok (.l2i, 1) := by decide +kernel
theorem dX11_fitting_34 : decode cX11_fitting 34 = .ok (.invokevirtual 303, 3) := by decide +kernel
theorem dX11_fitting_37 : decode cX11_fitting 37 = .ok (.istore 6, 2) := by decide +kernel
theorem dX11_fitting_39 : decode cX11_fitting 39 = .ok (.iload_n 3, 1) := by decide +kernel
theorem dX11_fitting_40 : decode cX11_fitting 40 = .ok (.aload_n 0, 1) := by decide +kernel
theorem dX11_fitting_41 : decode cX11_fitting 41 = .ok (.getfield 27, 3) := by decide +kernel
theorem dX11_fitting_44 : decode cX11_fitting 44 = .ok (.iload 5, 2) := by decide +kernel
theorem dX11_fitting_46 : decode cX11_fitting 46 = .ok (.iconst 1, 1) := by decide +kernel
theorem dX11_fitting_47 : decode cX11_fitting 47 = .ok (.iadd, 1) := by decide +kernel
theorem dX11_fitting_48 : decode cX11_fitting 48 = .ok (.laload, 1) := by decide +kernel
theorem dX11_fitting_49 : decode cX11_fitting 49 = .ok (.lconst 1, 1) := by decide +kernel
theorem dX11_fitting_50 : decode cX11_fitting 50 = .ok (.lcmp, 1) := by decide +kernel
theorem dX11_fitting_51 : decode cX11_fitting 51 = .ok (.ifCond .ne 8, 3) := by decide +kernel
theorem dX11_fitting_54 : decode cX11_fitting 54 = .ok (.iload 6, 2) := by decide +kernel
theorem dX11_fitting_56 : decode cX11_fitting 56 = .ok (.goto 7, 3) := by decide +kernel
theorem dX11_fitting_59 : decode cX11_fitting 59 = .ok (.iload 6, 2) := by decide +kernel
theorem dX11_fitting_61 : decode cX11_fitting 61 = .ok (.iconst (-1), 1) := by decide +kernel
theorem dX11_fitting_62 : decode cX11_fitting 62 = .ok (.ixor, 1) := by decide +kernel
theorem dX11_fitting_63 : decode cX11_fitting 63 = .ok (.iand, 1) := by decide +kernel
theorem dX11_fitting_64 : decode cX11_fitting 64 = .ok (.istore_n 3, 1) := by decide +kernel
theorem dX11_fitting_65 : decode cX11_fitting 65 = .ok (.iinc 4 1, 3) := by decide +kernel
theorem dX11_fitting_68 : decode cX11_fitting 68 = .ok (.goto (-60), 3) := by decide +kernel
theorem dX11_fitting_71 : decode cX11_fitting 71 = .ok (.iload_n 3, 1) := by decide +kernel
theorem dX11_fitting_72 : decode cX11_fitting 72 = .ok (.ireturn, 1) := by decide +kernel
theorem dX11_fits_0 : decode cX11_fits 0 = .ok (.aload_n 0, 1) := by decide +kernel
theorem dX11_fits_1 : decode cX11_fits 1 = .ok (.iload_n 1, 1) := by decide +kernel
theorem dX11_fits_2 : decode cX11_fits 2 = .ok (.iload_n 2, 1) := by decide +kernel
theorem dX11_fits_3 : decode cX11_fits 3 = .ok (.invokevirtual 411, 3) := by decide +kernel
theorem dX11_fits_6 : decode cX11_fits 6 = .ok (.istore_n 3, 1) := by decide +kernel
theorem dX11_fits_7 : decode cX11_fits 7 = .ok (.iload_n 3, 1) := by decide +kernel
theorem dX11_fits_8 : decode cX11_fits 8 = .ok (.ifCond .le 11, 3) := by decide +kernel
theorem dX11_fits_11 : decode cX11_fits 11 = .ok (.aload_n 0, 1) := by decide +kernel
theorem dX11_fits_12 : decode cX11_fits 12 = .ok (.iload_n 3, 1) := by decide +kernel
theorem dX11_fits_13 : decode cX11_fits 13 = .ok (.invokevirtual 99, 3) := by decide +kernel
theorem dX11_fits_16 : decode cX11_fits 16 = .ok (.goto 13, 3) := by decide +kernel
theorem dX11_fits_19 : decode cX11_fits 19 = .ok (.aload_n 0, 1) := by decide +kernel
theorem dX11_fits_20 : decode cX11_fits 20 = .ok (.aload_n 0, 1) := by decide +kernel
theorem dX11_fits_21 : decode cX11_fits 21 = .ok (.iload_n 1, 1) := by decide +kernel
theorem dX11_fits_22 : decode cX11_fits 22 = .ok (.iload_n 2, 1) := by decide +kernel
theorem dX11_fits_23 : decode cX11_fits 23 = .ok (.invokevirtual 414, 3) := by decide +kernel
theorem dX11_fits_26 : decode cX11_fits 26 = .ok (.invokevirtual 103, 3) := by decide +kernel
theorem dX11_fits_29 : decode cX11_fits 29 = .ok (.ireturn, 1) := by decide +kernel
theorem dX11_likely_0 : decode cX11_likely 0 = .ok (.aload_n 0, 1) := by decide +kernel
theorem dX11_likely_1 : decode cX11_likely 1 = .ok (.iload_n 1, 1) := by decide +kernel
theorem dX11_likely_2 : decode cX11_likely 2 = .ok (.iload_n 2, 1) := by decide +kernel
theorem dX11_likely_3 : decode cX11_likely 3 = .ok (.invokevirtual 411, 3) := by decide +kernel
theorem dX11_likely_6 : decode cX11_likely 6 = .ok (.istore_n 3, 1) := by decide +kernel
theorem dX11_likely_7 : decode cX11_likely 7 = .ok (.iload_n 3, 1) := by decide +kernel
theorem dX11_likely_8 : decode cX11_likely 8 = .ok (.ifCond .le 9, 3) := by decide +kernel
theorem dX11_likely_11 : decode cX11_likely 11 = .ok (.aload_n 0, 1) := by decide +kernel
theorem dX11_likely_12 : decode cX11_likely 12 = .ok (.iload_n 3, 1) := by decide +kernel
theorem dX11_likely_13 : decode cX11_likely 13 = .ok (.invokevirtual 99, 3) := by decide +kernel
theorem dX11_likely_16 : decode cX11_likely 16 = .ok (.ireturn, 1) := by decide +kernel
theorem dX11_likely_17 : decode cX11_likely 17 = .ok (.aload_n 0, 1) := by decide +kernel
theorem dX11_likely_18 : decode cX11_likely 18 = .ok (.iload_n 1, 1) := by decide +kernel
theorem dX11_likely_19 : decode cX11_likely 19 = .ok (.iload_n 2, 1) := by decide +kernel
theorem dX11_likely_20 : decode cX11_likely 20 = .ok (.invokevirtual 414, 3) := by decide +kernel
theorem dX11_likely_23 : decode cX11_likely 23 = .ok (.istore 4, 2) := by decide +kernel
theorem dX11_likely_25 : decode cX11_likely 25 = .ok (.iconst (-1), 1) := by decide +kernel
theorem dX11_likely_26 : decode cX11_likely 26 = .ok (.istore 5, 2) := by decide +kernel
theorem dX11_likely_28 : decode cX11_likely 28 = .ok (.iconst 0, 1) := by decide +kernel
theorem dX11_likely_29 : decode cX11_likely 29 = .ok (.istore 6, 2) := by decide +kernel
theorem dX11_likely_31 : decode cX11_likely 31 = .ok (.iload 6, 2) := by decide +kernel
theorem dX11_likely_33 : decode cX11_likely 33 = .ok (.aload_n 0, 1) := by decide +kernel
theorem dX11_likely_34 : decode cX11_likely 34 = .ok (.getfield 7, 3) := by decide +kernel
theorem dX11_likely_37 : decode cX11_likely 37 = .ok (.iconst 1, 1) := by decide +kernel
theorem dX11_likely_38 : decode cX11_likely 38 = .ok (.iaload, 1) := by decide +kernel
theorem dX11_likely_39 : decode cX11_likely 39 = .ok (.if_icmp .ge 53, 3) := by decide +kernel
theorem dX11_likely_42 : decode cX11_likely 42 = .ok (.aload_n 0, 1) := by decide +kernel
theorem dX11_likely_43 : decode cX11_likely 43 = .ok (.iload 4, 2) := by decide +kernel
theorem dX11_likely_45 : decode cX11_likely 45 = .ok (.iload 6, 2) := by decide +kernel
theorem dX11_likely_47 : decode cX11_likely 47 = .ok (.invokevirtual 236, 3) := by decide +kernel
theorem dX11_likely_50 : decode cX11_likely 50 = .ok (.ifCond .eq 36, 3) := by decide +kernel
theorem dX11_likely_53 : decode cX11_likely 53 = .ok (.iload 5, 2) := by decide +kernel
theorem dX11_likely_55 : decode cX11_likely 55 = .ok (.iconst (-1), 1) := by decide +kernel
theorem dX11_likely_56 : decode cX11_likely 56 = .ok (.if_icmp .eq 26, 3) := by decide +kernel
theorem dX11_likely_59 : decode cX11_likely 59 = .ok (.aload_n 0, 1) := by decide +kernel
theorem dX11_likely_60 : decode cX11_likely 60 = .ok (.getfield 7, 3) := by decide +kernel
theorem dX11_likely_63 : decode cX11_likely 63 = .ok (.bipush 22, 2) := by decide +kernel
theorem dX11_likely_65 : decode cX11_likely 65 = .ok (.iload 6, 2) := by decide +kernel
theorem dX11_likely_67 : decode cX11_likely 67 = .ok (.iadd, 1) := by decide +kernel
theorem dX11_likely_68 : decode cX11_likely 68 = .ok (.iaload, 1) := by decide +kernel
theorem dX11_likely_69 : decode cX11_likely 69 = .ok (.aload_n 0, 1) := by decide +kernel
theorem dX11_likely_70 : decode cX11_likely 70 = .ok (.getfield 7, 3) := by decide +kernel
theorem dX11_likely_73 : decode cX11_likely 73 = .ok (.bipush 22, 2) := by decide +kernel
theorem dX11_likely_75 : decode cX11_likely 75 = .ok (.iload 5, 2) := by decide +kernel
theorem dX11_likely_77 : decode cX11_likely 77 = .ok (.iadd, 1) := by decide +kernel
theorem dX11_likely_78 : decode cX11_likely 78 = .ok (.iaload, 1) := by decide +kernel
theorem dX11_likely_79 : decode cX11_likely 79 = .ok (.if_icmp .le 7, 3) := by decide +kernel
theorem dX11_likely_82 : decode cX11_likely 82 = .ok (.iload 6, 2) := by decide +kernel
theorem dX11_likely_84 : decode cX11_likely 84 = .ok (.istore 5, 2) := by decide +kernel
theorem dX11_likely_86 : decode cX11_likely 86 = .ok (.iinc 6 1, 3) := by decide +kernel
theorem dX11_likely_89 : decode cX11_likely 89 = .ok (.goto (-58), 3) := by decide +kernel
theorem dX11_likely_92 : decode cX11_likely 92 = .ok (.aload_n 0, 1) := by decide +kernel
theorem dX11_likely_93 : decode cX11_likely 93 = .ok (.iload 5, 2) := by decide +kernel
theorem dX11_likely_95 : decode cX11_likely 95 = .ok (.invokevirtual 389, 3) := by decide +kernel
theorem dX11_likely_98 : decode cX11_likely 98 = .ok (.ireturn, 1) := by decide +kernel
theorem dX11_oddsThat_0 : decode cX11_oddsThat 0 = .ok (.aload_n 0, 1) := by decide +kernel
theorem dX11_oddsThat_1 : decode cX11_oddsThat 1 = .ok (.iload_n 3, 1) := by decide +kernel
theorem dX11_oddsThat_2 : decode cX11_oddsThat 2 = .ok (.invokevirtual 324, 3) := by decide +kernel
theorem dX11_oddsThat_5 : decode cX11_oddsThat 5 = .ok (.ifCond .eq 12, 3) := by decide +kernel
theorem dX11_oddsThat_8 : decode cX11_oddsThat 8 = .ok (.aload_n 0, 1) := by decide +kernel
theorem dX11_oddsThat_9 : decode cX11_oddsThat 9 = .ok (.iload_n 1, 1) := by decide +kernel
theorem dX11_oddsThat_10 : decode cX11_oddsThat 10 = .ok (.iload_n 2, 1) := by decide +kernel
theorem dX11_oddsThat_11 : decode cX11_oddsThat 11 = .ok (.invokevirtual 411, 3) := by decide +kernel
theorem dX11_oddsThat_14 : decode cX11_oddsThat 14 = .ok (.goto 4, 3) := by decide +kernel
theorem dX11_oddsThat_17 : decode cX11_oddsThat 17 = .ok (.iconst 1, 1) := by decide +kernel
theorem dX11_oddsThat_18 : decode cX11_oddsThat 18 = .ok (.istore 4, 2) := by decide +kernel
theorem dX11_oddsThat_20 : decode cX11_oddsThat 20 = .ok (.iload 4, 2) := by decide +kernel
theorem dX11_oddsThat_22 : decode cX11_oddsThat 22 = .ok (.ifCond .le 10, 3) := by decide +kernel
theorem dX11_oddsThat_25 : decode cX11_oddsThat 25 = .ok (.aload_n 0, 1) := by decide +kernel
theorem dX11_oddsThat_26 : decode cX11_oddsThat 26 = .ok (.iload 4, 2) := by decide +kernel
theorem dX11_oddsThat_28 : decode cX11_oddsThat 28 = .ok (.invokevirtual 106, 3) := by decide +kernel
theorem dX11_oddsThat_31 : decode cX11_oddsThat 31 = .ok (.ireturn, 1) := by decide +kernel
theorem dX11_oddsThat_32 : decode cX11_oddsThat 32 = .ok (.aload_n 0, 1) := by decide +kernel
theorem dX11_oddsThat_33 : decode cX11_oddsThat 33 = .ok (.iload_n 1, 1) := by decide +kernel
theorem dX11_oddsThat_34 : decode cX11_oddsThat 34 = .ok (.iload_n 2, 1) := by decide +kernel
theorem dX11_oddsThat_35 : decode cX11_oddsThat 35 = .ok (.invokevirtual 414, 3) := by decide +kernel
theorem dX11_oddsThat_38 : decode cX11_oddsThat 38 = .ok (.istore 5, 2) := by decide +kernel
theorem dX11_oddsThat_40 : decode cX11_oddsThat 40 = .ok (.iload 5, 2) := by decide +kernel
theorem dX11_oddsThat_42 : decode cX11_oddsThat 42 = .ok (.ifCond .ne 12, 3) := by decide +kernel
theorem dX11_oddsThat_45 : decode cX11_oddsThat 45 = .ok (.aload_n 0, 1) := by decide +kernel
theorem dX11_oddsThat_46 : decode cX11_oddsThat 46 = .ok (.bipush 6, 2) := by decide +kernel
theorem dX11_oddsThat_48 : decode cX11_oddsThat 48 = .ok (.invokevirtual 106, 3) := by decide +kernel
theorem dX11_oddsThat_51 : decode cX11_oddsThat 51 = .ok (.goto 25, 3) := by decide +kernel
theorem dX11_oddsThat_54 : decode cX11_oddsThat 54 = .ok (.aload_n 0, 1) := by decide +kernel
theorem dX11_oddsThat_55 : decode cX11_oddsThat 55 = .ok (.aload_n 0, 1) := by decide +kernel
theorem dX11_oddsThat_56 : decode cX11_oddsThat 56 = .ok (.iload 5, 2) := by decide +kernel
theorem dX11_oddsThat_58 : decode cX11_oddsThat 58 = .ok (.iconst 1, 1) := by decide +kernel
theorem dX11_oddsThat_59 : decode cX11_oddsThat 59 = .ok (.iload_n 3, 1) := by decide +kernel
theorem dX11_oddsThat_60 : decode cX11_oddsThat 60 = .ok (.ishl, 1) := by decide +kernel
theorem dX11_oddsThat_61 : decode cX11_oddsThat 61 = .ok (.iand, 1) := by decide +kernel
theorem dX11_oddsThat_62 : decode cX11_oddsThat 62 = .ok (.invokevirtual 393, 3) := by decide +kernel
theorem dX11_oddsThat_65 : decode cX11_oddsThat 65 = .ok (.i2l, 1) := by decide +kernel
theorem dX11_oddsThat_66 : decode cX11_oddsThat 66 = .ok (.aload_n 0, 1) := by decide +kernel
theorem dX11_oddsThat_67 : decode cX11_oddsThat 67 = .ok (.iload 5, 2) := by decide +kernel
theorem dX11_oddsThat_69 : decode cX11_oddsThat 69 = .ok (.invokevirtual 393, 3) := by decide +kernel
theorem dX11_oddsThat_72 : decode cX11_oddsThat 72 = .ok (.i2l, 1) := by decide +kernel
theorem dX11_oddsThat_73 : decode cX11_oddsThat 73 = .ok (.invokevirtual 417, 3) := by decide +kernel
theorem dX11_oddsThat_76 : decode cX11_oddsThat 76 = .ok (.ireturn, 1) := by decide +kernel
theorem dX11_next_0 : decode cX11_next 0 = .ok (.aload_n 0, 1) := by decide +kernel
theorem dX11_next_1 : decode cX11_next 1 = .ok (.iload_n 1, 1) := by decide +kernel
theorem dX11_next_2 : decode cX11_next 2 = .ok (.iload_n 2, 1) := by decide +kernel
theorem dX11_next_3 : decode cX11_next 3 = .ok (.invokevirtual 411, 3) := by decide +kernel
theorem dX11_next_6 : decode cX11_next 6 = .ok (.istore_n 3, 1) := by decide +kernel
theorem dX11_next_7 : decode cX11_next 7 = .ok (.iload_n 3, 1) := by decide +kernel
theorem dX11_next_8 : decode cX11_next 8 = .ok (.ifCond .le 9, 3) := by decide +kernel
theorem dX11_next_11 : decode cX11_next 11 = .ok (.aload_n 0, 1) := by decide +kernel
theorem dX11_next_12 : decode cX11_next 12 = .ok (.iload_n 3, 1) := by decide +kernel
theorem dX11_next_13 : decode cX11_next 13 = .ok (.invokevirtual 99, 3) := by decide +kernel
theorem dX11_next_16 : decode cX11_next 16 = .ok (.ireturn, 1) := by decide +kernel
theorem dX11_next_17 : decode cX11_next 17 = .ok (.aload_n 0, 1) := by decide +kernel
theorem dX11_next_18 : decode cX11_next 18 = .ok (.iload_n 1, 1) := by decide +kernel
theorem dX11_next_19 : decode cX11_next 19 = .ok (.iload_n 2, 1) := by decide +kernel
theorem dX11_next_20 : decode cX11_next 20 = .ok (.invokevirtual 414, 3) := by decide +kernel
theorem dX11_next_23 : decode cX11_next 23 = .ok (.istore 4, 2) := by decide +kernel
theorem dX11_next_25 : decode cX11_next 25 = .ok (.iconst (-1), 1) := by decide +kernel
theorem dX11_next_26 : decode cX11_next 26 = .ok (.istore 5, 2) := by decide +kernel
theorem dX11_next_28 : decode cX11_next 28 = .ok (.iload 4, 2) := by decide +kernel
theorem dX11_next_30 : decode cX11_next 30 = .ok (.invokestatic 312, 3) := by decide +kernel
theorem dX11_next_33 : decode cX11_next 33 = .ok (.istore 6, 2) := by decide +kernel
theorem dX11_next_35 : decode cX11_next 35 = .ok (.iconst 0, 1) := by decide +kernel
theorem dX11_next_36 : decode cX11_next 36 = .ok (.istore 7, 2) := by decide +kernel
theorem dX11_next_38 : decode cX11_next 38 = .ok (.iload 7, 2) := by decide +kernel
theorem dX11_next_40 : decode cX11_next 40 = .ok (.aload_n 0, 1) := by decide +kernel
theorem dX11_next_41 : decode cX11_next 41 = .ok (.getfield 7, 3) := by decide +kernel
theorem dX11_next_44 : decode cX11_next 44 = .ok (.iconst 2, 1) := by decide +kernel
theorem dX11_next_45 : decode cX11_next 45 = .ok (.iaload, 1) := by decide +kernel
theorem dX11_next_46 : decode cX11_next 46 = .ok (.if_icmp .ge 58, 3) := by decide +kernel
theorem dX11_next_49 : decode cX11_next 49 = .ok (.iload 4, 2) := by decide +kernel
theorem dX11_next_51 : decode cX11_next 51 = .ok (.aload_n 0, 1) := by decide +kernel
theorem dX11_next_52 : decode cX11_next 52 = .ok (.iload 7, 2) := by decide +kernel
theorem dX11_next_54 : decode cX11_next 54 = .ok (.invokevirtual 303, 3) := by decide +kernel
theorem dX11_next_57 : decode cX11_next 57 = .ok (.iand, 1) := by decide +kernel
theorem dX11_next_58 : decode cX11_next 58 = .ok (.invokestatic 312, 3) := by decide +kernel
theorem dX11_next_61 : decode cX11_next 61 = .ok (.iload 4, 2) := by decide +kernel
theorem dX11_next_63 : decode cX11_next 63 = .ok (.aload_n 0, 1) := by decide +kernel
theorem dX11_next_64 : decode cX11_next 64 = .ok (.iload 7, 2) := by decide +kernel
theorem dX11_next_66 : decode cX11_next 66 = .ok (.invokevirtual 303, 3) := by decide +kernel
theorem dX11_next_69 : decode cX11_next 69 = .ok (.iconst (-1), 1) := by decide +kernel
theorem dX11_next_70 : decode cX11_next 70 = .ok (.ixor, 1) := by decide +kernel
theorem dX11_next_71 : decode cX11_next 71 = .ok (.iand, 1) := by decide +kernel
theorem dX11_next_72 : decode cX11_next 72 = .ok (.invokestatic 312, 3) := by decide +kernel
theorem dX11_next_75 : decode cX11_next 75 = .ok (.invokestatic 345, 3) := by decide +kernel
theorem dX11_next_78 : decode cX11_next 78 = .ok (.istore 8, 2) := by decide +kernel
theorem dX11_next_80 : decode cX11_next 80 = .ok (.iload 8, 2) := by decide +kernel
theorem dX11_next_82 : decode cX11_next 82 = .ok (.iload 6, 2) := by decide +kernel
theorem dX11_next_84 : decode cX11_next 84 = .ok (.if_icmp .lt 6, 3) := by decide +kernel
theorem dX11_next_87 : decode cX11_next 87 = .ok (.goto 11, 3) := by decide +kernel
theorem dX11_next_90 : decode cX11_next 90 = .ok (.iload 8, 2) := by decide +kernel
theorem dX11_next_92 : decode cX11_next 92 = .ok (.istore 6, 2) := by decide +kernel
theorem dX11_next_94 : decode cX11_next 94 = .ok (.iload 7, 2) := by decide +kernel
theorem dX11_next_96 : decode cX11_next 96 = .ok (.istore 5, 2) := by decide +kernel
theorem dX11_next_98 : decode cX11_next 98 = .ok (.iinc 7 1, 3) := by decide +kernel
theorem dX11_next_101 : decode cX11_next 101 = .ok (.goto (-63), 3) := by decide +kernel
theorem dX11_next_104 : decode cX11_next 104 = .ok (.aload_n 0, 1) := by decide +kernel
theorem dX11_next_105 : decode cX11_next 105 = .ok (.iload 5, 2) := by decide +kernel
theorem dX11_next_107 : decode cX11_next 107 = .ok (.invokevirtual 389, 3) := by decide +kernel
theorem dX11_next_110 : decode cX11_next 110 = .ok (.ireturn, 1) := by decide +kernel
theorem dX11_laysGather_0 : decode cX11_laysGather 0 = .ok (.aload_n 0, 1) := by decide +kernel
theorem dX11_laysGather_1 : decode cX11_laysGather 1 = .ok (.getfield 7, 3) := by decide +kernel
theorem dX11_laysGather_4 : decode cX11_laysGather 4 = .ok (.iload_n 1, 1) := by decide +kernel
theorem dX11_laysGather_5 : decode cX11_laysGather 5 = .ok (.invokestatic 242, 3) := by decide +kernel
theorem dX11_laysGather_8 : decode cX11_laysGather 8 = .ok (.iaload, 1) := by decide +kernel
theorem dX11_laysGather_9 : decode cX11_laysGather 9 = .ok (.istore_n 3, 1) := by decide +kernel
theorem dX11_laysGather_10 : decode cX11_laysGather 10 = .ok (.aload_n 0, 1) := by decide +kernel
theorem dX11_laysGather_11 : decode cX11_laysGather 11 = .ok (.iconst (-1), 1) := by decide +kernel
theorem dX11_laysGather_12 : decode cX11_laysGather 12 = .ok (.putfield 421, 3) := by decide +kernel
theorem dX11_laysGather_15 : decode cX11_laysGather 15 = .ok (.aload_n 0, 1) := by decide +kernel
theorem dX11_laysGather_16 : decode cX11_laysGather 16 = .ok (.iconst 0, 1) := by decide +kernel
theorem dX11_laysGather_17 : decode cX11_laysGather 17 = .ok (.putfield 424, 3) := by decide +kernel
theorem dX11_laysGather_20 : decode cX11_laysGather 20 = .ok (.iconst 0, 1) := by decide +kernel
theorem dX11_laysGather_21 : decode cX11_laysGather 21 = .ok (.istore 4, 2) := by decide +kernel
theorem dX11_laysGather_23 : decode cX11_laysGather 23 = .ok (.iload 4, 2) := by decide +kernel
theorem dX11_laysGather_25 : decode cX11_laysGather 25 = .ok (.iload_n 3, 1) := by decide +kernel
theorem dX11_laysGather_26 : decode cX11_laysGather 26 = .ok (.if_icmp .gt 131, 3) := by decide +kernel
theorem dX11_laysGather_29 : decode cX11_laysGather 29 = .ok (.iload_n 3, 1) := by decide +kernel
theorem dX11_laysGather_30 : decode cX11_laysGather 30 = .ok (.istore 5, 2) := by decide +kernel
theorem dX11_laysGather_32 : decode cX11_laysGather 32 = .ok (.iload 5, 2) := by decide +kernel
theorem dX11_laysGather_34 : decode cX11_laysGather 34 = .ok (.aload_n 0, 1) := by decide +kernel
theorem dX11_laysGather_35 : decode cX11_laysGather 35 = .ok (.getfield 7, 3) := by decide +kernel
theorem dX11_laysGather_38 : decode cX11_laysGather 38 = .ok (.iconst 0, 1) := by decide +kernel
theorem dX11_laysGather_39 : decode cX11_laysGather 39 = .ok (.iaload, 1) := by decide +kernel
theorem dX11_laysGather_40 : decode cX11_laysGather 40 = .ok (.if_icmp .ge 111, 3) := by decide +kernel
theorem dX11_laysGather_43 : decode cX11_laysGather 43 = .ok (.iload 5, 2) := by decide +kernel
theorem dX11_laysGather_45 : decode cX11_laysGather 45 = .ok (.iload 4, 2) := by decide +kernel
theorem dX11_laysGather_47 : decode cX11_laysGather 47 = .ok (.isub, 1) := by decide +kernel
theorem dX11_laysGather_48 : decode cX11_laysGather 48 = .ok (.iload_n 3, 1) := by decide +kernel
theorem dX11_laysGather_49 : decode cX11_laysGather 49 = .ok (.iload 4, 2) := by decide +kernel
theorem dX11_laysGather_51 : decode cX11_laysGather 51 = .ok (.isub, 1) := by decide +kernel
theorem dX11_laysGather_52 : decode cX11_laysGather 52 = .ok (.iload 5, 2) := by decide +kernel
theorem dX11_laysGather_54 : decode cX11_laysGather 54 = .ok (.iload_n 3, 1) := by decide +kernel
theorem dX11_laysGather_55 : decode cX11_laysGather 55 = .ok (.isub, 1) := by decide +kernel
theorem dX11_laysGather_56 : decode cX11_laysGather 56 = .ok (.invokestatic 154, 3) := by decide +kernel
theorem dX11_laysGather_59 : decode cX11_laysGather 59 = .ok (.iadd, 1) := by decide +kernel
theorem dX11_laysGather_60 : decode cX11_laysGather 60 = .ok (.istore 6, 2) := by decide +kernel
theorem dX11_laysGather_62 : decode cX11_laysGather 62 = .ok (.iconst 0, 1) := by decide +kernel
theorem dX11_laysGather_63 : decode cX11_laysGather 63 = .ok (.istore 7, 2) := by decide +kernel
theorem dX11_laysGather_65 : decode cX11_laysGather 65 = .ok (.iload 4, 2) := by decide +kernel
theorem dX11_laysGather_67 : decode cX11_laysGather 67 = .ok (.istore 8, 2) := by decide +kernel
theorem dX11_laysGather_69 : decode cX11_laysGather 69 = .ok (.iload 8, 2) := by decide +kernel
theorem dX11_laysGather_71 : decode cX11_laysGather 71 = .ok (.iload 5, 2) := by decide +kernel
theorem dX11_laysGather_73 : decode cX11_laysGather 73 = .ok (.if_icmp .gt 24, 3) := by decide +kernel
theorem dX11_laysGather_76 : decode cX11_laysGather 76 = .ok (.iload 7, 2) := by decide +kernel
theorem dX11_laysGather_78 : decode cX11_laysGather 78 = .ok (.aload_n 0, 1) := by decide +kernel
theorem dX11_laysGather_79 : decode cX11_laysGather 79 = .ok (.getfield 7, 3) := by decide +kernel
theorem dX11_laysGather_82 : decode cX11_laysGather 82 = .ok (.iload 8, 2) := by decide +kernel
theorem dX11_laysGather_84 : decode cX11_laysGather 84 = .ok (.invokestatic 216, 3) := by decide +kernel
theorem dX11_laysGather_87 : decode cX11_laysGather 87 = .ok (.iaload, 1) := by decide +kernel
theorem dX11_laysGather_88 : decode cX11_laysGather 88 = .ok (.iadd, 1) := by decide +kernel
theorem dX11_laysGather_89 : decode cX11_laysGather 89 = .ok (.istore 7, 2) := by decide +kernel
theorem dX11_laysGather_91 : decode cX11_laysGather 91 = .ok (.iinc 8 1, 3) := by decide +kernel
theorem dX11_laysGather_94 : decode cX11_laysGather 94 = .ok (.goto (-25), 3) := by decide +kernel
theorem dX11_laysGather_97 : decode cX11_laysGather 97 = .ok (.iload 6, 2) := by decide +kernel
theorem dX11_laysGather_99 : decode cX11_laysGather 99 = .ok (.iload_n 2, 1) := by decide +kernel
theorem dX11_laysGather_100 : decode cX11_laysGather 100 = .ok (.if_icmp .gt 45, 3) := by decide +kernel
theorem dX11_laysGather_103 : decode cX11_laysGather 103 = .ok (.iload 7, 2) := by decide +kernel
theorem dX11_laysGather_105 : decode cX11_laysGather 105 = .ok (.aload_n 0, 1) := by decide +kernel
theorem dX11_laysGather_106 : decode cX11_laysGather 106 = .ok (.getfield 421, 3) := by decide +kernel
theorem dX11_laysGather_109 : decode cX11_laysGather 109 = .ok (.if_icmp .lt 36, 3) := by decide +kernel
theorem dX11_laysGather_112 : decode cX11_laysGather 112 = .ok (.iload 7, 2) := by decide +kernel
theorem dX11_laysGather_114 : decode cX11_laysGather 114 = .ok (.aload_n 0, 1) := by decide +kernel
theorem dX11_laysGather_115 : decode cX11_laysGather 115 = .ok (.getfield 421, 3) := by decide +kernel
theorem dX11_laysGather_118 : decode cX11_laysGather 118 = .ok (.if_icmp .ne 15, 3) := by decide +kernel
theorem dX11_laysGather_121 : decode cX11_laysGather 121 = .ok (.iload 6, 2) := by decide +kernel
theorem dX11_laysGather_123 : decode cX11_laysGather 123 = .ok (.aload_n 0, 1) := by decide +kernel
theorem dX11_laysGather_124 : decode cX11_laysGather 124 = .ok (.getfield 424, 3) := by decide +kernel
theorem dX11_laysGather_127 : decode cX11_laysGather 127 = .ok (.if_icmp .lt 6, 3) := by decide +kernel
theorem dX11_laysGather_130 : decode cX11_laysGather 130 = .ok (.goto 15, 3) := by decide +kernel
theorem dX11_laysGather_133 : decode cX11_laysGather 133 = .ok (.aload_n 0, 1) := by decide +kernel
theorem dX11_laysGather_134 : decode cX11_laysGather 134 = .ok (.iload 7, 2) := by decide +kernel
theorem dX11_laysGather_136 : decode cX11_laysGather 136 = .ok (.putfield 421, 3) := by decide +kernel
theorem dX11_laysGather_139 : decode cX11_laysGather 139 = .ok (.aload_n 0, 1) := by decide +kernel
theorem dX11_laysGather_140 : decode cX11_laysGather 140 = .ok (.iload 6, 2) := by decide +kernel
theorem dX11_laysGather_142 : decode cX11_laysGather 142 = .ok (.putfield 424, 3) := by decide +kernel
theorem dX11_laysGather_145 : decode cX11_laysGather 145 = .ok (.iinc 5 1, 3) := by decide +kernel
theorem dX11_laysGather_148 : decode cX11_laysGather 148 = .ok (.goto (-116), 3) := by decide +kernel
theorem dX11_laysGather_151 : decode cX11_laysGather 151 = .ok (.iinc 4 1, 3) := by decide +kernel
theorem dX11_laysGather_154 : decode cX11_laysGather 154 = .ok (.goto (-131), 3) := by decide +kernel
theorem dX11_laysGather_157 : decode cX11_laysGather 157 = .ok (.return_, 1) := by decide +kernel
theorem dX11_gather_0 : decode cX11_gather 0 = .ok (.aload_n 0, 1) := by decide +kernel
theorem dX11_gather_1 : decode cX11_gather 1 = .ok (.iload_n 1, 1) := by decide +kernel
theorem dX11_gather_2 : decode cX11_gather 2 = .ok (.invokevirtual 333, 3) := by decide +kernel
theorem dX11_gather_5 : decode cX11_gather 5 = .ok (.ifCond .eq 15, 3) := by decide +kernel
theorem dX11_gather_8 : decode cX11_gather 8 = .ok (.iload_n 2, 1) := by decide +kernel
theorem dX11_gather_9 : decode cX11_gather 9 = .ok (.i2l, 1) := by decide +kernel
theorem dX11_gather_10 : decode cX11_gather 10 = .ok (.lconst 0, 1) := by decide +kernel
theorem dX11_gather_11 : decode cX11_gather 11 = .ok (.ldc2_w 427, 3) := by decide +kernel
theorem dX11_gather_14 : decode cX11_gather 14 = .ok (.invokestatic 299, 3) := by decide +kernel
theorem dX11_gather_17 : decode cX11_gather 17 = .ok (.ifCond .ne 9, 3) := by decide +kernel
theorem dX11_gather_20 : decode cX11_gather 20 = .ok (.aload_n 0, 1) := by decide +kernel
theorem dX11_gather_21 : decode cX11_gather 21 = .ok (.iconst 1, 1) := by decide +kernel
theorem dX11_gather_22 : decode cX11_gather 22 = .ok (.invokevirtual 99, 3) := by decide +kernel
theorem dX11_gather_25 : decode cX11_gather 25 = .ok (.ireturn, 1) := by decide +kernel
theorem dX11_gather_26 : decode cX11_gather 26 = .ok (.aload_n 0, 1) := by decide +kernel
theorem dX11_gather_27 : decode cX11_gather 27 = .ok (.iload_n 1, 1) := by decide +kernel
theorem dX11_gather_28 : decode cX11_gather 28 = .ok (.iload_n 2, 1) := by decide +kernel
theorem dX11_gather_29 : decode cX11_gather 29 = .ok (.invokevirtual 429, 3) := by decide +kernel
theorem dX11_gather_32 : decode cX11_gather 32 = .ok (.aload_n 0, 1) := by decide +kernel
theorem dX11_gather_33 : decode cX11_gather 33 = .ok (.aload_n 0, 1) := by decide +kernel
theorem dX11_gather_34 : decode cX11_gather 34 = .ok (.getfield 421, 3) := by decide +kernel
theorem dX11_gather_37 : decode cX11_gather 37 = .ok (.invokevirtual 103, 3) := by decide +kernel
theorem dX11_gather_40 : decode cX11_gather 40 = .ok (.ireturn, 1) := by decide +kernel
theorem dX11_brisk_0 : decode cX11_brisk 0 = .ok (.aload_n 0, 1) := by decide +kernel
theorem dX11_brisk_1 : decode cX11_brisk 1 = .ok (.iload_n 1, 1) := by decide +kernel
theorem dX11_brisk_2 : decode cX11_brisk 2 = .ok (.invokevirtual 333, 3) := by decide +kernel
theorem dX11_brisk_5 : decode cX11_brisk 5 = .ok (.ifCond .eq 15, 3) := by decide +kernel
theorem dX11_brisk_8 : decode cX11_brisk 8 = .ok (.iload_n 2, 1) := by decide +kernel
theorem dX11_brisk_9 : decode cX11_brisk 9 = .ok (.i2l, 1) := by decide +kernel
theorem dX11_brisk_10 : decode cX11_brisk 10 = .ok (.lconst 0, 1) := by decide +kernel
theorem dX11_brisk_11 : decode cX11_brisk 11 = .ok (.ldc2_w 427, 3) := by decide +kernel
theorem dX11_brisk_14 : decode cX11_brisk 14 = .ok (.invokestatic 299, 3) := by decide +kernel
theorem dX11_brisk_17 : decode cX11_brisk 17 = .ok (.ifCond .ne 9, 3) := by decide +kernel
theorem dX11_brisk_20 : decode cX11_brisk 20 = .ok (.aload_n 0, 1) := by decide +kernel
theorem dX11_brisk_21 : decode cX11_brisk 21 = .ok (.iconst 1, 1) := by decide +kernel
theorem dX11_brisk_22 : decode cX11_brisk 22 = .ok (.invokevirtual 99, 3) := by decide +kernel
theorem dX11_brisk_25 : decode cX11_brisk 25 = .ok (.ireturn, 1) := by decide +kernel
theorem dX11_brisk_26 : decode cX11_brisk 26 = .ok (.aload_n 0, 1) := by decide +kernel
theorem dX11_brisk_27 : decode cX11_brisk 27 = .ok (.iload_n 1, 1) := by decide +kernel
theorem dX11_brisk_28 : decode cX11_brisk 28 = .ok (.iload_n 2, 1) := by decide +kernel
theorem dX11_brisk_29 : decode cX11_brisk 29 = .ok (.invokevirtual 429, 3) := by decide +kernel
theorem dX11_brisk_32 : decode cX11_brisk 32 = .ok (.aload_n 0, 1) := by decide +kernel
theorem dX11_brisk_33 : decode cX11_brisk 33 = .ok (.aload_n 0, 1) := by decide +kernel
theorem dX11_brisk_34 : decode cX11_brisk 34 = .ok (.getfield 424, 3) := by decide +kernel
theorem dX11_brisk_37 : decode cX11_brisk 37 = .ok (.invokevirtual 103, 3) := by decide +kernel
theorem dX11_brisk_40 : decode cX11_brisk 40 = .ok (.ireturn, 1) := by decide +kernel
theorem dX11_settles_0 : decode cX11_settles 0 = .ok (.aload_n 0, 1) := by decide +kernel
theorem dX11_settles_1 : decode cX11_settles 1 = .ok (.getfield 77, 3) := by decide +kernel
theorem dX11_settles_4 : decode cX11_settles 4 = .ok (.iload_n 1, 1) := by decide +kernel
theorem dX11_settles_5 : decode cX11_settles 5 = .ok (.iaload, 1) := by decide +kernel
theorem dX11_settles_6 : decode cX11_settles 6 = .ok (.iconst (-1), 1) := by decide +kernel
theorem dX11_settles_7 : decode cX11_settles 7 = .ok (.if_icmp .ne 7, 3) := by decide +kernel
theorem dX11_settles_10 : decode cX11_settles 10 = .ok (.iconst 1, 1) := by decide +kernel
theorem dX11_settles_11 : decode cX11_settles 11 = .ok (.goto 4, 3) := by decide +kernel
theorem dX11_settles_14 : decode cX11_settles 14 = .ok (.iconst 0, 1) := by decide +kernel
theorem dX11_settles_15 : decode cX11_settles 15 = .ok (.istore_n 3, 1) := by decide +kernel
theorem dX11_settles_16 : decode cX11_settles 16 = .ok (.iload_n 3, 1) := by decide +kernel
theorem dX11_settles_17 : decode cX11_settles 17 = .ok (.ifCond .ne 33, 3) := by decide +kernel
theorem dX11_settles_20 : decode cX11_settles 20 = .ok (.iload_n 1, 1) := by decide +kernel
theorem dX11_settles_21 : decode cX11_settles 21 = .ok (.iconst 2, 1) := by decide +kernel
theorem dX11_settles_22 : decode cX11_settles 22 = .ok (.irem, 1) := by decide +kernel
theorem dX11_settles_23 : decode cX11_settles 23 = .ok (.ifCond .ne 16, 3) := by decide +kernel
theorem dX11_settles_26 : decode cX11_settles 26 = .ok (.iload_n 2, 1) := by decide +kernel
theorem dX11_settles_27 : decode cX11_settles 27 = .ok (.aload_n 0, 1) := by decide +kernel
theorem dX11_settles_28 : decode cX11_settles 28 = .ok (.getfield 74, 3) := by decide +kernel
theorem dX11_settles_31 : decode cX11_settles 31 = .ok (.iload_n 1, 1) := by decide +kernel
theorem dX11_settles_32 : decode cX11_settles 32 = .ok (.iaload, 1) := by decide +kernel
theorem dX11_settles_33 : decode cX11_settles 33 = .ok (.if_icmp .gt 17, 3) := by decide +kernel
theorem dX11_settles_36 : decode cX11_settles 36 = .ok (.goto 13, 3) := by decide +kernel
theorem dX11_settles_39 : decode cX11_settles 39 = .ok (.iload_n 2, 1) := by decide +kernel
theorem dX11_settles_40 : decode cX11_settles 40 = .ok (.aload_n 0, 1) := by decide +kernel
theorem dX11_settles_41 : decode cX11_settles 41 = .ok (.getfield 74, 3) := by decide +kernel
theorem dX11_settles_44 : decode cX11_settles 44 = .ok (.iload_n 1, 1) := by decide +kernel
theorem dX11_settles_45 : decode cX11_settles 45 = .ok (.iaload, 1) := by decide +kernel
theorem dX11_settles_46 : decode cX11_settles 46 = .ok (.if_icmp .lt 4, 3) := by decide +kernel
theorem dX11_settles_49 : decode cX11_settles 49 = .ok (.return_, 1) := by decide +kernel
theorem dX11_settles_50 : decode cX11_settles 50 = .ok (.aload_n 0, 1) := by decide +kernel
theorem dX11_settles_51 : decode cX11_settles 51 = .ok (.getfield 74, 3) := by decide +kernel
theorem dX11_settles_54 : decode cX11_settles 54 = .ok (.iload_n 1, 1) := by decide +kernel
theorem dX11_settles_55 : decode cX11_settles 55 = .ok (.iload_n 2, 1) := by decide +kernel
theorem dX11_settles_56 : decode cX11_settles 56 = .ok (.iastore, 1) := by decide +kernel
theorem dX11_settles_57 : decode cX11_settles 57 = .ok (.aload_n 0, 1) := by decide +kernel
theorem dX11_settles_58 : decode cX11_settles 58 = .ok (.getfield 77, 3) := by decide +kernel
theorem dX11_settles_61 : decode cX11_settles 61 = .ok (.iload_n 1, 1) := by decide +kernel
theorem dX11_settles_62 : decode cX11_settles 62 = .ok (.aload_n 0, 1) := by decide +kernel
theorem dX11_settles_63 : decode cX11_settles 63 = .ok (.getfield 71, 3) := by decide +kernel
theorem dX11_settles_66 : decode cX11_settles 66 = .ok (.iload_n 1, 1) := by decide +kernel
theorem dX11_settles_67 : decode cX11_settles 67 = .ok (.iaload, 1) := by decide +kernel
theorem dX11_settles_68 : decode cX11_settles 68 = .ok (.iastore, 1) := by decide +kernel
theorem dX11_settles_69 : decode cX11_settles 69 = .ok (.return_, 1) := by decide +kernel
theorem dX11_playing_0 : decode cX11_playing 0 = .ok (.iload_n 1, 1) := by decide +kernel
theorem dX11_playing_1 : decode cX11_playing 1 = .ok (.ifCond .ne 5, 3) := by decide +kernel
theorem dX11_playing_4 : decode cX11_playing 4 = .ok (.iconst 0, 1) := by decide +kernel
theorem dX11_playing_5 : decode cX11_playing 5 = .ok (.ireturn, 1) := by decide +kernel
theorem dX11_playing_6 : decode cX11_playing 6 = .ok (.iconst 0, 1) := by decide +kernel
theorem dX11_playing_7 : decode cX11_playing 7 = .ok (.istore_n 2, 1) := by decide +kernel
theorem dX11_playing_8 : decode cX11_playing 8 = .ok (.aload_n 0, 1) := by decide +kernel
theorem dX11_playing_9 : decode cX11_playing 9 = .ok (.getfield 65, 3) := by decide +kernel
theorem dX11_playing_12 : decode cX11_playing 12 = .ok (.iconst 0, 1) := by decide +kernel
theorem dX11_playing_13 : decode cX11_playing 13 = .ok (.aload_n 0, 1) := by decide +kernel
theorem dX11_playing_14 : decode cX11_playing 14 = .ok (.getfield 7, 3) := by decide +kernel
theorem dX11_playing_17 : decode cX11_playing 17 = .ok (.bipush 6, 2) := by decide +kernel
theorem dX11_playing_19 : decode cX11_playing 19 = .ok (.iaload, 1) := by decide +kernel
theorem dX11_playing_20 : decode cX11_playing 20 = .ok (.iastore, 1) := by decide +kernel
theorem dX11_playing_21 : decode cX11_playing 21 = .ok (.aload_n 0, 1) := by decide +kernel
theorem dX11_playing_22 : decode cX11_playing 22 = .ok (.getfield 68, 3) := by decide +kernel
theorem dX11_playing_25 : decode cX11_playing 25 = .ok (.iconst 0, 1) := by decide +kernel
theorem dX11_playing_26 : decode cX11_playing 26 = .ok (.iconst 0, 1) := by decide +kernel
theorem dX11_playing_27 : decode cX11_playing 27 = .ok (.iastore, 1) := by decide +kernel
theorem dX11_playing_28 : decode cX11_playing 28 = .ok (.aload_n 0, 1) := by decide +kernel
theorem dX11_playing_29 : decode cX11_playing 29 = .ok (.getfield 71, 3) := by decide +kernel
theorem dX11_playing_32 : decode cX11_playing 32 = .ok (.iconst 0, 1) := by decide +kernel
theorem dX11_playing_33 : decode cX11_playing 33 = .ok (.iconst (-1), 1) := by decide +kernel
theorem dX11_playing_34 : decode cX11_playing 34 = .ok (.iastore, 1) := by decide +kernel
theorem dX11_playing_35 : decode cX11_playing 35 = .ok (.aload_n 0, 1) := by decide +kernel
theorem dX11_playing_36 : decode cX11_playing 36 = .ok (.getfield 77, 3) := by decide +kernel
theorem dX11_playing_39 : decode cX11_playing 39 = .ok (.iconst 0, 1) := by decide +kernel
theorem dX11_playing_40 : decode cX11_playing 40 = .ok (.iconst (-1), 1) := by decide +kernel
theorem dX11_playing_41 : decode cX11_playing 41 = .ok (.iastore, 1) := by decide +kernel
theorem dX11_playing_42 : decode cX11_playing 42 = .ok (.aload_n 0, 1) := by decide +kernel
theorem dX11_playing_43 : decode cX11_playing 43 = .ok (.getfield 71, 3) := by decide +kernel
theorem dX11_playing_46 : decode cX11_playing 46 = .ok (.iload_n 2, 1) := by decide +kernel
theorem dX11_playing_47 : decode cX11_playing 47 = .ok (.dup2, 1) := by decide +kernel
theorem dX11_playing_48 : decode cX11_playing 48 = .ok (.iaload, 1) := by decide +kernel
theorem dX11_playing_49 : decode cX11_playing 49 = .ok (.iconst 1, 1) := by decide +kernel
theorem dX11_playing_50 : decode cX11_playing 50 = .ok (.iadd, 1) := by decide +kernel
theorem dX11_playing_51 : decode cX11_playing 51 = .ok (.iastore, 1) := by decide +kernel
theorem dX11_playing_52 : decode cX11_playing 52 = .ok (.aload_n 0, 1) := by decide +kernel
theorem dX11_playing_53 : decode cX11_playing 53 = .ok (.getfield 71, 3) := by decide +kernel
theorem dX11_playing_56 : decode cX11_playing 56 = .ok (.iload_n 2, 1) := by decide +kernel
theorem dX11_playing_57 : decode cX11_playing 57 = .ok (.iaload, 1) := by decide +kernel
theorem dX11_playing_58 : decode cX11_playing 58 = .ok (.istore_n 3, 1) := by decide +kernel
theorem dX11_playing_59 : decode cX11_playing 59 = .ok (.iload_n 3, 1) := by decide +kernel
theorem dX11_playing_60 : decode cX11_playing 60 = .ok (.aload_n 0, 1) := by decide +kernel
theorem dX11_playing_61 : decode cX11_playing 61 = .ok (.getfield 7, 3) := by decide +kernel
theorem dX11_playing_64 : decode cX11_playing 64 = .ok (.iconst 2, 1) := by decide +kernel
theorem dX11_playing_65 : decode cX11_playing 65 = .ok (.iaload, 1) := by decide +kernel
theorem dX11_playing_66 : decode cX11_playing 66 = .ok (.if_icmp .le 29, 3) := by decide +kernel
theorem dX11_playing_69 : decode cX11_playing 69 = .ok (.iload_n 2, 1) := by decide +kernel
theorem dX11_playing_70 : decode cX11_playing 70 = .ok (.ifCond .ne 6, 3) := by decide +kernel
theorem dX11_playing_73 : decode cX11_playing 73 = .ok (.goto 178, 3) := by decide +kernel
theorem dX11_playing_76 : decode cX11_playing 76 = .ok (.iinc 2 (-1), 3) := by decide +kernel
theorem dX11_playing_79 : decode cX11_playing 79 = .ok (.aload_n 0, 1) := by decide +kernel
theorem dX11_playing_80 : decode cX11_playing 80 = .ok (.iload_n 2, 1) := by decide +kernel
theorem dX11_playing_81 : decode cX11_playing 81 = .ok (.aload_n 0, 1) := by decide +kernel
theorem dX11_playing_82 : decode cX11_playing 82 = .ok (.getfield 74, 3) := by decide +kernel
theorem dX11_playing_85 : decode cX11_playing 85 = .ok (.iload_n 2, 1) := by decide +kernel
theorem dX11_playing_86 : decode cX11_playing 86 = .ok (.iconst 1, 1) := by decide +kernel
theorem dX11_playing_87 : decode cX11_playing 87 = .ok (.iadd, 1) := by decide +kernel
theorem dX11_playing_88 : decode cX11_playing 88 = .ok (.iaload, 1) := by decide +kernel
theorem dX11_playing_89 : decode cX11_playing 89 = .ok (.invokevirtual 433, 3) := by decide +kernel
theorem dX11_playing_92 : decode cX11_playing 92 = .ok (.goto (-50), 3) := by decide +kernel
theorem dX11_playing_95 : decode cX11_playing 95 = .ok (.iload_n 3, 1) := by decide +kernel
theorem dX11_playing_96 : decode cX11_playing 96 = .ok (.aload_n 0, 1) := by decide +kernel
theorem dX11_playing_97 : decode cX11_playing 97 = .ok (.getfield 7, 3) := by decide +kernel
theorem dX11_playing_100 : decode cX11_playing 100 = .ok (.iconst 2, 1) := by decide +kernel
theorem dX11_playing_101 : decode cX11_playing 101 = .ok (.iaload, 1) := by decide +kernel
theorem dX11_playing_102 : decode cX11_playing 102 = .ok (.if_icmp .ge 7, 3) := by decide +kernel
theorem dX11_playing_105 : decode cX11_playing 105 = .ok (.iconst 1, 1) := by decide +kernel
theorem dX11_playing_106 : decode cX11_playing 106 = .ok (.goto 4, 3) := by decide +kernel
theorem dX11_playing_109 : decode cX11_playing 109 = .ok (.iconst 0, 1) := by decide +kernel
theorem dX11_playing_110 : decode cX11_playing 110 = .ok (.istore 4, 2) := by decide +kernel
theorem dX11_playing_112 : decode cX11_playing 112 = .ok (.iload 4, 2) := by decide +kernel
theorem dX11_playing_114 : decode cX11_playing 114 = .ok (.ifCond .eq 20, 3) := by decide +kernel
theorem dX11_playing_117 : decode cX11_playing 117 = .ok (.aload_n 0, 1) := by decide +kernel
theorem dX11_playing_118 : decode cX11_playing 118 = .ok (.aload_n 0, 1) := by decide +kernel
theorem dX11_playing_119 : decode cX11_playing 119 = .ok (.getfield 65, 3) := by decide +kernel
theorem dX11_playing_122 : decode cX11_playing 122 = .ok (.iload_n 2, 1) := by decide +kernel
theorem dX11_playing_123 : decode cX11_playing 123 = .ok (.iaload, 1) := by decide +kernel
theorem dX11_playing_124 : decode cX11_playing 124 = .ok (.iload_n 3, 1) := by decide +kernel
theorem dX11_playing_125 : decode cX11_playing 125 = .ok (.invokevirtual 236, 3) := by decide +kernel
theorem dX11_playing_128 : decode cX11_playing 128 = .ok (.ifCond .eq 6, 3) := by decide +kernel
theorem dX11_playing_131 : decode cX11_playing 131 = .ok (.goto (-89), 3) := by decide +kernel
theorem dX11_playing_134 : decode cX11_playing 134 = .ok (.iload 4, 2) := by decide +kernel
theorem dX11_playing_136 : decode cX11_playing 136 = .ok (.ifCond .eq 17, 3) := by decide +kernel
theorem dX11_playing_139 : decode cX11_playing 139 = .ok (.aload_n 0, 1) := by decide +kernel
theorem dX11_playing_140 : decode cX11_playing 140 = .ok (.iload_n 3, 1) := by decide +kernel
theorem dX11_playing_141 : decode cX11_playing 141 = .ok (.aload_n 0, 1) := by decide +kernel
theorem dX11_playing_142 : decode cX11_playing 142 = .ok (.getfield 65, 3) := by decide +kernel
theorem dX11_playing_145 : decode cX11_playing 145 = .ok (.iload_n 2, 1) := by decide +kernel
theorem dX11_playing_146 : decode cX11_playing 146 = .ok (.iaload, 1) := by decide +kernel
theorem dX11_playing_147 : decode cX11_playing 147 = .ok (.invokevirtual 330, 3) := by decide +kernel
theorem dX11_playing_150 : decode cX11_playing 150 = .ok (.goto 4, 3) := by decide +kernel
theorem dX11_playing_153 : decode cX11_playing 153 = .ok (.iconst 0, 1) := by decide +kernel
theorem dX11_playing_154 : decode cX11_playing 154 = .ok (.istore 5, 2) := by decide +kernel
theorem dX11_playing_156 : decode cX11_playing 156 = .ok (.aload_n 0, 1) := by decide +kernel
theorem dX11_playing_157 : decode cX11_playing 157 = .ok (.getfield 68, 3) := by decide +kernel
theorem dX11_playing_160 : decode cX11_playing 160 = .ok (.iload_n 2, 1) := by decide +kernel
theorem dX11_playing_161 : decode cX11_playing 161 = .ok (.iaload, 1) := by decide +kernel
theorem dX11_playing_162 : decode cX11_playing 162 = .ok (.iload_n 2, 1) := by decide +kernel
theorem dX11_playing_163 : decode cX11_playing 163 = .ok (.iconst 2, 1) := by decide +kernel
theorem dX11_playing_164 : decode cX11_playing 164 = .ok (.irem, 1) := by decide +kernel
theorem dX11_playing_165 : decode cX11_playing 165 = .ok (.ifCond .ne 8, 3) := by decide +kernel
theorem dX11_playing_168 : decode cX11_playing 168 = .ok (.iload 5, 2) := by decide +kernel
theorem dX11_playing_170 : decode cX11_playing 170 = .ok (.goto 6, 3) := by decide +kernel
theorem dX11_playing_173 : decode cX11_playing 173 = .ok (.iload 5, 2) := by decide +kernel
theorem dX11_playing_175 : decode cX11_playing 175 = .ok (.ineg, 1) := by decide +kernel
theorem dX11_playing_176 : decode cX11_playing 176 = .ok (.iadd, 1) := by decide +kernel
theorem dX11_playing_177 : decode cX11_playing 177 = .ok (.istore 6, 2) := by decide +kernel
theorem dX11_playing_179 : decode cX11_playing 179 = .ok (.iload_n 2, 1) := by decide +kernel
theorem dX11_playing_180 : decode cX11_playing 180 = .ok (.iconst 1, 1) := by decide +kernel
theorem dX11_playing_181 : decode cX11_playing 181 = .ok (.iadd, 1) := by decide +kernel
theorem dX11_playing_182 : decode cX11_playing 182 = .ok (.iload_n 1, 1) := by decide +kernel
theorem dX11_playing_183 : decode cX11_playing 183 = .ok (.if_icmp .ne 13, 3) := by decide +kernel
theorem dX11_playing_186 : decode cX11_playing 186 = .ok (.aload_n 0, 1) := by decide +kernel
theorem dX11_playing_187 : decode cX11_playing 187 = .ok (.iload_n 2, 1) := by decide +kernel
theorem dX11_playing_188 : decode cX11_playing 188 = .ok (.iload 6, 2) := by decide +kernel
theorem dX11_playing_190 : decode cX11_playing 190 = .ok (.invokevirtual 433, 3) := by decide +kernel
theorem dX11_playing_193 : decode cX11_playing 193 = .ok (.goto 55, 3) := by decide +kernel
theorem dX11_playing_196 : decode cX11_playing 196 = .ok (.iinc 2 1, 3) := by decide +kernel
theorem dX11_playing_199 : decode cX11_playing 199 = .ok (.aload_n 0, 1) := by decide +kernel
theorem dX11_playing_200 : decode cX11_playing 200 = .ok (.getfield 65, 3) := by decide +kernel
theorem dX11_playing_203 : decode cX11_playing 203 = .ok (.iload_n 2, 1) := by decide +kernel
theorem dX11_playing_204 : decode cX11_playing 204 = .ok (.aload_n 0, 1) := by decide +kernel
theorem dX11_playing_205 : decode cX11_playing 205 = .ok (.getfield 65, 3) := by decide +kernel
theorem dX11_playing_208 : decode cX11_playing 208 = .ok (.iload_n 2, 1) := by decide +kernel
theorem dX11_playing_209 : decode cX11_playing 209 = .ok (.iconst 1, 1) := by decide +kernel
theorem dX11_playing_210 : decode cX11_playing 210 = .ok (.isub, 1) := by decide +kernel
theorem dX11_playing_211 : decode cX11_playing 211 = .ok (.iaload, 1) := by decide +kernel
theorem dX11_playing_212 : decode cX11_playing 212 = .ok (.iload 4, 2) := by decide +kernel
theorem dX11_playing_214 : decode cX11_playing 214 = .ok (.ifCond .eq 9, 3) := by decide +kernel
theorem dX11_playing_217 : decode cX11_playing 217 = .ok (.iconst 1, 1) := by decide +kernel
theorem dX11_playing_218 : decode cX11_playing 218 = .ok (.iload_n 3, 1) := by decide +kernel
theorem dX11_playing_219 : decode cX11_playing 219 = .ok (.ishl, 1) := by decide +kernel
theorem dX11_playing_220 : decode cX11_playing 220 = .ok (.goto 4, 3) := by decide +kernel
theorem dX11_playing_223 : decode cX11_playing 223 = .ok (.iconst 0, 1) := by decide +kernel
theorem dX11_playing_224 : decode cX11_playing 224 = .ok (.ior, 1) := by decide +kernel
theorem dX11_playing_225 : decode cX11_playing 225 = .ok (.iastore, 1) := by decide +kernel
theorem dX11_playing_226 : decode cX11_playing 226 = .ok (.aload_n 0, 1) := by decide +kernel
theorem dX11_playing_227 : decode cX11_playing 227 = .ok (.getfield 68, 3) := by decide +kernel
theorem dX11_playing_230 : decode cX11_playing 230 = .ok (.iload_n 2, 1) := by decide +kernel
theorem dX11_playing_231 : decode cX11_playing 231 = .ok (.iload 6, 2) := by decide +kernel
theorem dX11_playing_233 : decode cX11_playing 233 = .ok (.iastore, 1) := by decide +kernel
theorem dX11_playing_234 : decode cX11_playing 234 = .ok (.aload_n 0, 1) := by decide +kernel
theorem dX11_playing_235 : decode cX11_playing 235 = .ok (.getfield 71, 3) := by decide +kernel
theorem dX11_playing_238 : decode cX11_playing 238 = .ok (.iload_n 2, 1) := by decide +kernel
theorem dX11_playing_239 : decode cX11_playing 239 = .ok (.iconst (-1), 1) := by decide +kernel
theorem dX11_playing_240 : decode cX11_playing 240 = .ok (.iastore, 1) := by decide +kernel
theorem dX11_playing_241 : decode cX11_playing 241 = .ok (.aload_n 0, 1) := by decide +kernel
theorem dX11_playing_242 : decode cX11_playing 242 = .ok (.getfield 77, 3) := by decide +kernel
theorem dX11_playing_245 : decode cX11_playing 245 = .ok (.iload_n 2, 1) := by decide +kernel
theorem dX11_playing_246 : decode cX11_playing 246 = .ok (.iconst (-1), 1) := by decide +kernel
theorem dX11_playing_247 : decode cX11_playing 247 = .ok (.iastore, 1) := by decide +kernel
theorem dX11_playing_248 : decode cX11_playing 248 = .ok (.goto (-206), 3) := by decide +kernel
theorem dX11_playing_251 : decode cX11_playing 251 = .ok (.aload_n 0, 1) := by decide +kernel
theorem dX11_playing_252 : decode cX11_playing 252 = .ok (.getfield 74, 3) := by decide +kernel
theorem dX11_playing_255 : decode cX11_playing 255 = .ok (.iconst 0, 1) := by decide +kernel
theorem dX11_playing_256 : decode cX11_playing 256 = .ok (.iaload, 1) := by decide +kernel
theorem dX11_playing_257 : decode cX11_playing 257 = .ok (.ireturn, 1) := by decide +kernel
theorem dX11_game_0 : decode cX11_game 0 = .ok (.iload_n 1, 1) := by decide +kernel
theorem dX11_game_1 : decode cX11_game 1 = .ok (.i2l, 1) := by decide +kernel
theorem dX11_game_2 : decode cX11_game 2 = .ok (.lconst 0, 1) := by decide +kernel
theorem dX11_game_3 : decode cX11_game 3 = .ok (.ldc2_w 436, 3) := by decide +kernel
theorem dX11_game_6 : decode cX11_game 6 = .ok (.invokestatic 299, 3) := by decide +kernel
theorem dX11_game_9 : decode cX11_game 9 = .ok (.ifCond .ne 9, 3) := by decide +kernel
theorem dX11_game_12 : decode cX11_game 12 = .ok (.aload_n 0, 1) := by decide +kernel
theorem dX11_game_13 : decode cX11_game 13 = .ok (.iconst 1, 1) := by decide +kernel
theorem dX11_game_14 : decode cX11_game 14 = .ok (.invokevirtual 99, 3) := by decide +kernel
theorem dX11_game_17 : decode cX11_game 17 = .ok (.ireturn, 1) := by decide +kernel
theorem dX11_game_18 : decode cX11_game 18 = .ok (.aload_n 0, 1) := by decide +kernel
theorem dX11_game_19 : decode cX11_game 19 = .ok (.aload_n 0, 1) := by decide +kernel
theorem dX11_game_20 : decode cX11_game 20 = .ok (.iload_n 1, 1) := by decide +kernel
theorem dX11_game_21 : decode cX11_game 21 = .ok (.invokevirtual 438, 3) := by decide +kernel
theorem dX11_game_24 : decode cX11_game 24 = .ok (.invokevirtual 103, 3) := by decide +kernel
theorem dX11_game_27 : decode cX11_game 27 = .ok (.ireturn, 1) := by decide +kernel
theorem dX11_moveOf_0 : decode cX11_moveOf 0 = .ok (.iload_n 1, 1) := by decide +kernel
theorem dX11_moveOf_1 : decode cX11_moveOf 1 = .ok (.i2l, 1) := by decide +kernel
theorem dX11_moveOf_2 : decode cX11_moveOf 2 = .ok (.lconst 1, 1) := by decide +kernel
theorem dX11_moveOf_3 : decode cX11_moveOf 3 = .ok (.ldc2_w 436, 3) := by decide +kernel
theorem dX11_moveOf_6 : decode cX11_moveOf 6 = .ok (.invokestatic 299, 3) := by decide +kernel
theorem dX11_moveOf_9 : decode cX11_moveOf 9 = .ok (.ifCond .ne 9, 3) := by decide +kernel
theorem dX11_moveOf_12 : decode cX11_moveOf 12 = .ok (.aload_n 0, 1) := by decide +kernel
theorem dX11_moveOf_13 : decode cX11_moveOf 13 = .ok (.iconst 1, 1) := by decide +kernel
theorem dX11_moveOf_14 : decode cX11_moveOf 14 = .ok (.invokevirtual 99, 3) := by decide +kernel
theorem dX11_moveOf_17 : decode cX11_moveOf 17 = .ok (.ireturn, 1) := by decide +kernel
theorem dX11_moveOf_18 : decode cX11_moveOf 18 = .ok (.aload_n 0, 1) := by decide +kernel
theorem dX11_moveOf_19 : decode cX11_moveOf 19 = .ok (.iload_n 1, 1) := by decide +kernel
theorem dX11_moveOf_20 : decode cX11_moveOf 20 = .ok (.invokevirtual 438, 3) := by decide +kernel
theorem dX11_moveOf_23 : decode cX11_moveOf 23 = .ok (.pop, 1) := by decide +kernel
theorem dX11_moveOf_24 : decode cX11_moveOf 24 = .ok (.aload_n 0, 1) := by decide +kernel
theorem dX11_moveOf_25 : decode cX11_moveOf 25 = .ok (.getfield 77, 3) := by decide +kernel
theorem dX11_moveOf_28 : decode cX11_moveOf 28 = .ok (.iconst 0, 1) := by decide +kernel
theorem dX11_moveOf_29 : decode cX11_moveOf 29 = .ok (.iaload, 1) := by decide +kernel
theorem dX11_moveOf_30 : decode cX11_moveOf 30 = .ok (.aload_n 0, 1) := by decide +kernel
theorem dX11_moveOf_31 : decode cX11_moveOf 31 = .ok (.getfield 7, 3) := by decide +kernel
theorem dX11_moveOf_34 : decode cX11_moveOf 34 = .ok (.iconst 2, 1) := by decide +kernel
theorem dX11_moveOf_35 : decode cX11_moveOf 35 = .ok (.iaload, 1) := by decide +kernel
theorem dX11_moveOf_36 : decode cX11_moveOf 36 = .ok (.if_icmp .ne 12, 3) := by decide +kernel
theorem dX11_moveOf_39 : decode cX11_moveOf 39 = .ok (.aload_n 0, 1) := by decide +kernel
theorem dX11_moveOf_40 : decode cX11_moveOf 40 = .ok (.bipush 6, 2) := by decide +kernel
theorem dX11_moveOf_42 : decode cX11_moveOf 42 = .ok (.invokevirtual 99, 3) := by decide +kernel
theorem dX11_moveOf_45 : decode cX11_moveOf 45 = .ok (.goto 13, 3) := by decide +kernel
theorem dX11_moveOf_48 : decode cX11_moveOf 48 = .ok (.aload_n 0, 1) := by decide +kernel
theorem dX11_moveOf_49 : decode cX11_moveOf 49 = .ok (.aload_n 0, 1) := by decide +kernel
theorem dX11_moveOf_50 : decode cX11_moveOf 50 = .ok (.getfield 77, 3) := by decide +kernel
theorem dX11_moveOf_53 : decode cX11_moveOf 53 = .ok (.iconst 0, 1) := by decide +kernel
theorem dX11_moveOf_54 : decode cX11_moveOf 54 = .ok (.iaload, 1) := by decide +kernel
theorem dX11_moveOf_55 : decode cX11_moveOf 55 = .ok (.invokevirtual 103, 3) := by decide +kernel
theorem dX11_moveOf_58 : decode cX11_moveOf 58 = .ok (.ireturn, 1) := by decide +kernel
theorem dX11_ordersOf_0 : decode cX11_ordersOf 0 = .ok (.lconst 1, 1) := by decide +kernel
theorem dX11_ordersOf_1 : decode cX11_ordersOf 1 = .ok (.lstore_n 3, 1) := by decide +kernel
theorem dX11_ordersOf_2 : decode cX11_ordersOf 2 = .ok (.iconst 0, 1) := by decide +kernel
theorem dX11_ordersOf_3 : decode cX11_ordersOf 3 = .ok (.istore 5, 2) := by decide +kernel
theorem dX11_ordersOf_5 : decode cX11_ordersOf 5 = .ok (.iload 5, 2) := by decide +kernel
theorem dX11_ordersOf_7 : decode cX11_ordersOf 7 = .ok (.iload_n 2, 1) := by decide +kernel
theorem dX11_ordersOf_8 : decode cX11_ordersOf 8 = .ok (.if_icmp .ge 21, 3) := by decide +kernel
theorem dX11_ordersOf_11 : decode cX11_ordersOf 11 = .ok (.lload_n 3, 1) := by decide +kernel
theorem dX11_ordersOf_12 : decode cX11_ordersOf 12 = .ok (.lconst 0, 1) := by decide +kernel
theorem dX11_ordersOf_13 : decode cX11_ordersOf 13 = .ok (.lload_n 0, 1) := by decide +kernel
theorem dX11_ordersOf_14 : decode cX11_ordersOf 14 = .ok (.iload 5, 2) := by decide +kernel
theorem dX11_ordersOf_16 : decode cX11_ordersOf 16 = .ok (.i2l, 1) := by decide +kernel
theorem dX11_ordersOf_17 : decode cX11_ordersOf 17 = .ok (.lsub, 1) := by decide +kernel
theorem dX11_ordersOf_18 : decode cX11_ordersOf 18 = .ok (.invokestatic 441, 3) := by decide +kernel
theorem dX11_ordersOf_21 : decode cX11_ordersOf 21 = .ok (.lmul, 1) := by decide +kernel
theorem dX11_ordersOf_22 : decode cX11_ordersOf 22 = .ok (.lstore_n 3, 1) := by decide +kernel
theorem dX11_ordersOf_23 : decode cX11_ordersOf 23 = .ok (.iinc 5 1, 3) := by decide +kernel
theorem dX11_ordersOf_26 : decode cX11_ordersOf 26 = .ok (.goto (-21), 3) := by decide +kernel
theorem dX11_ordersOf_29 : decode cX11_ordersOf 29 = .ok (.lload_n 3, 1) := by decide +kernel
theorem dX11_ordersOf_30 : decode cX11_ordersOf 30 = .ok (.lreturn, 1) := by decide +kernel
theorem dX11_blind_0 : decode cX11_blind 0 = .ok (.aload_n 0, 1) := by decide +kernel
theorem dX11_blind_1 : decode cX11_blind 1 = .ok (.iload_n 1, 1) := by decide +kernel
theorem dX11_blind_2 : decode cX11_blind 2 = .ok (.invokevirtual 321, 3) := by decide +kernel
theorem dX11_blind_5 : decode cX11_blind 5 = .ok (.ifCond .eq 27, 3) := by decide +kernel
theorem dX11_blind_8 : decode cX11_blind 8 = .ok (.iload_n 2, 1) := by decide +kernel
theorem dX11_blind_9 : decode cX11_blind 9 = .ok (.i2l, 1) := by decide +kernel
theorem dX11_blind_10 : decode cX11_blind 10 = .ok (.lconst 0, 1) := by decide +kernel
theorem dX11_blind_11 : decode cX11_blind 11 = .ok (.ldc2_w 436, 3) := by decide +kernel
theorem dX11_blind_14 : decode cX11_blind 14 = .ok (.invokestatic 299, 3) := by decide +kernel
theorem dX11_blind_17 : decode cX11_blind 17 = .ok (.ifCond .eq 15, 3) := by decide +kernel
theorem dX11_blind_20 : decode cX11_blind 20 = .ok (.iload_n 3, 1) := by decide +kernel
theorem dX11_blind_21 : decode cX11_blind 21 = .ok (.i2l, 1) := by decide +kernel
theorem dX11_blind_22 : decode cX11_blind 22 = .ok (.lconst 0, 1) := by decide +kernel
theorem dX11_blind_23 : decode cX11_blind 23 = .ok (.ldc2_w 436, 3) := by decide +kernel
theorem dX11_blind_26 : decode cX11_blind 26 = .ok (.invokestatic 299, 3) := by decide +kernel
theorem dX11_blind_29 : decode cX11_blind 29 = .ok (.ifCond .ne 9, 3) := by decide +kernel
theorem dX11_blind_32 : decode cX11_blind 32 = .ok (.aload_n 0, 1) := by decide +kernel
theorem dX11_blind_33 : decode cX11_blind 33 = .ok (.iconst 1, 1) := by decide +kernel
theorem dX11_blind_34 : decode cX11_blind 34 = .ok (.invokevirtual 106, 3) := by decide +kernel
theorem dX11_blind_37 : decode cX11_blind 37 = .ok (.ireturn, 1) := by decide +kernel
theorem dX11_blind_38 : decode cX11_blind 38 = .ok (.aload_n 0, 1) := by decide +kernel
theorem dX11_blind_39 : decode cX11_blind 39 = .ok (.getfield 7, 3) := by decide +kernel
theorem dX11_blind_42 : decode cX11_blind 42 = .ok (.iload_n 1, 1) := by decide +kernel
theorem dX11_blind_43 : decode cX11_blind 43 = .ok (.invokestatic 216, 3) := by decide +kernel
theorem dX11_blind_46 : decode cX11_blind 46 = .ok (.iaload, 1) := by decide +kernel
theorem dX11_blind_47 : decode cX11_blind 47 = .ok (.i2l, 1) := by decide +kernel
theorem dX11_blind_48 : decode cX11_blind 48 = .ok (.lstore 4, 2) := by decide +kernel
theorem dX11_blind_50 : decode cX11_blind 50 = .ok (.aload_n 0, 1) := by decide +kernel
theorem dX11_blind_51 : decode cX11_blind 51 = .ok (.getfield 7, 3) := by decide +kernel
theorem dX11_blind_54 : decode cX11_blind 54 = .ok (.iload_n 1, 1) := by decide +kernel
theorem dX11_blind_55 : decode cX11_blind 55 = .ok (.invokestatic 216, 3) := by decide +kernel
theorem dX11_blind_58 : decode cX11_blind 58 = .ok (.iconst 1, 1) := by decide +kernel
theorem dX11_blind_59 : decode cX11_blind 59 = .ok (.iadd, 1) := by decide +kernel
theorem dX11_blind_60 : decode cX11_blind 60 = .ok (.iaload, 1) := by decide +kernel
theorem dX11_blind_61 : decode cX11_blind 61 = .ok (.i2l, 1) := by decide +kernel
theorem dX11_blind_62 : decode cX11_blind 62 = .ok (.lstore 6, 2) := by decide +kernel
theorem dX11_blind_64 : decode cX11_blind 64 = .ok (.lload 4, 2) := by decide +kernel
theorem dX11_blind_66 : decode cX11_blind 66 = .ok (.lload 6, 2) := by decide +kernel
theorem dX11_blind_68 : decode cX11_blind 68 = .ok (.ladd, 1) := by decide +kernel
theorem dX11_blind_69 : decode cX11_blind 69 = .ok (.iload_n 2, 1) := by decide +kernel
theorem dX11_blind_70 : decode cX11_blind 70 = .ok (.i2l, 1) := by decide +kernel
theorem dX11_blind_71 : decode cX11_blind 71 = .ok (.lcmp, 1) := by decide +kernel
theorem dX11_blind_72 : decode cX11_blind 72 = .ok (.ifCond .ge 10, 3) := by decide +kernel
theorem dX11_blind_75 : decode cX11_blind 75 = .ok (.aload_n 0, 1) := by decide +kernel
theorem dX11_blind_76 : decode cX11_blind 76 = .ok (.bipush 6, 2) := by decide +kernel
theorem dX11_blind_78 : decode cX11_blind 78 = .ok (.invokevirtual 106, 3) := by decide +kernel
theorem dX11_blind_81 : decode cX11_blind 81 = .ok (.ireturn, 1) := by decide +kernel
theorem dX11_blind_82 : decode cX11_blind 82 = .ok (.lconst 0, 1) := by decide +kernel
theorem dX11_blind_83 : decode cX11_blind 83 = .ok (.lstore 8, 2) := by decide +kernel
theorem dX11_blind_85 : decode cX11_blind 85 = .ok (.iload_n 3, 1) := by decide +kernel
theorem dX11_blind_86 : decode cX11_blind 86 = .ok (.istore 10, 2) := by decide +kernel
theorem dX11_blind_88 : decode cX11_blind 88 = .ok (.iload 10, 2) := by decide +kernel
theorem dX11_blind_90 : decode cX11_blind 90 = .ok (.iload_n 2, 1) := by decide +kernel
theorem dX11_blind_91 : decode cX11_blind 91 = .ok (.if_icmp .gt 48, 3) := by decide +kernel
theorem dX11_blind_94 : decode cX11_blind 94 = .ok (.lload 8, 2) := by decide +kernel
theorem dX11_blind_96 : decode cX11_blind 96 = .ok (.iload_n 2, 1) := by decide +kernel
theorem dX11_blind_97 : decode cX11_blind 97 = .ok (.i2l, 1) := by decide +kernel
theorem dX11_blind_98 : decode cX11_blind 98 = .ok (.iload 10, 2) := by decide +kernel
theorem dX11_blind_100 : decode cX11_blind 100 = .ok (.invokestatic 444, 3) := by decide +kernel
theorem dX11_blind_103 : decode cX11_blind 103 = .ok (.iload 10, 2) := by decide +kernel
theorem dX11_blind_105 : decode cX11_blind 105 = .ok (.i2l, 1) := by decide +kernel
theorem dX11_blind_106 : decode cX11_blind 106 = .ok (.iload 10, 2) := by decide +kernel
theorem dX11_blind_108 : decode cX11_blind 108 = .ok (.invokestatic 444, 3) := by decide +kernel
theorem dX11_blind_111 : decode cX11_blind 111 = .ok (.ldiv, 1) := by decide +kernel
theorem dX11_blind_112 : decode cX11_blind 112 = .ok (.lload 4, 2) := by decide +kernel
theorem dX11_blind_114 : decode cX11_blind 114 = .ok (.iload 10, 2) := by decide +kernel
theorem dX11_blind_116 : decode cX11_blind 116 = .ok (.invokestatic 444, 3) := by decide +kernel
theorem dX11_blind_119 : decode cX11_blind 119 = .ok (.lmul, 1) := by decide +kernel
theorem dX11_blind_120 : decode cX11_blind 120 = .ok (.lload 6, 2) := by decide +kernel
theorem dX11_blind_122 : decode cX11_blind 122 = .ok (.iload_n 2, 1) := by decide +kernel
theorem dX11_blind_123 : decode cX11_blind 123 = .ok (.iload 10, 2) := by decide +kernel
theorem dX11_blind_125 : decode cX11_blind 125 = .ok (.isub, 1) := by decide +kernel
theorem dX11_blind_126 : decode cX11_blind 126 = .ok (.invokestatic 444, 3) := by decide +kernel
theorem dX11_blind_129 : decode cX11_blind 129 = .ok (.lmul, 1) := by decide +kernel
theorem dX11_blind_130 : decode cX11_blind 130 = .ok (.ladd, 1) := by decide +kernel
theorem dX11_blind_131 : decode cX11_blind 131 = .ok (.lstore 8, 2) := by decide +kernel
theorem dX11_blind_133 : decode cX11_blind 133 = .ok (.iinc 10 1, 3) := by decide +kernel
theorem dX11_blind_136 : decode cX11_blind 136 = .ok (.goto (-48), 3) := by decide +kernel
theorem dX11_blind_139 : decode cX11_blind 139 = .ok (.aload_n 0, 1) := by decide +kernel
theorem dX11_blind_140 : decode cX11_blind 140 = .ok (.lload 8, 2) := by decide +kernel
theorem dX11_blind_142 : decode cX11_blind 142 = .ok (.lload 4, 2) := by decide +kernel
theorem dX11_blind_144 : decode cX11_blind 144 = .ok (.lload 6, 2) := by decide +kernel
theorem dX11_blind_146 : decode cX11_blind 146 = .ok (.ladd, 1) := by decide +kernel
theorem dX11_blind_147 : decode cX11_blind 147 = .ok (.iload_n 2, 1) := by decide +kernel
theorem dX11_blind_148 : decode cX11_blind 148 = .ok (.invokestatic 444, 3) := by decide +kernel
theorem dX11_blind_151 : decode cX11_blind 151 = .ok (.invokevirtual 417, 3) := by decide +kernel
theorem dX11_blind_154 : decode cX11_blind 154 = .ok (.ireturn, 1) := by decide +kernel
theorem dX11_share_0 : decode cX11_share 0 = .ok (.aload_n 0, 1) := by decide +kernel
theorem dX11_share_1 : decode cX11_share 1 = .ok (.iload_n 1, 1) := by decide +kernel
theorem dX11_share_2 : decode cX11_share 2 = .ok (.invokevirtual 333, 3) := by decide +kernel
theorem dX11_share_5 : decode cX11_share 5 = .ok (.ifCond .ne 9, 3) := by decide +kernel
theorem dX11_share_8 : decode cX11_share 8 = .ok (.aload_n 0, 1) := by decide +kernel
theorem dX11_share_9 : decode cX11_share 9 = .ok (.iconst 1, 1) := by decide +kernel
theorem dX11_share_10 : decode cX11_share 10 = .ok (.invokevirtual 106, 3) := by decide +kernel
theorem dX11_share_13 : decode cX11_share 13 = .ok (.ireturn, 1) := by decide +kernel
theorem dX11_share_14 : decode cX11_share 14 = .ok (.aload_n 0, 1) := by decide +kernel
theorem dX11_share_15 : decode cX11_share 15 = .ok (.iconst 2, 1) := by decide +kernel
theorem dX11_share_16 : decode cX11_share 16 = .ok (.invokevirtual 318, 3) := by decide +kernel
theorem dX11_share_19 : decode cX11_share 19 = .ok (.ifCond .ne 12, 3) := by decide +kernel
theorem dX11_share_22 : decode cX11_share 22 = .ok (.aload_n 0, 1) := by decide +kernel
theorem dX11_share_23 : decode cX11_share 23 = .ok (.bipush 6, 2) := by decide +kernel
theorem dX11_share_25 : decode cX11_share 25 = .ok (.invokevirtual 106, 3) := by decide +kernel
theorem dX11_share_28 : decode cX11_share 28 = .ok (.goto 25, 3) := by decide +kernel
theorem dX11_share_31 : decode cX11_share 31 = .ok (.aload_n 0, 1) := by decide +kernel
theorem dX11_share_32 : decode cX11_share 32 = .ok (.aload_n 0, 1) := by decide +kernel
theorem dX11_share_33 : decode cX11_share 33 = .ok (.getfield 7, 3) := by decide +kernel
theorem dX11_share_36 : decode cX11_share 36 = .ok (.iload_n 1, 1) := by decide +kernel
theorem dX11_share_37 : decode cX11_share 37 = .ok (.invokestatic 242, 3) := by decide +kernel
theorem dX11_share_40 : decode cX11_share 40 = .ok (.iconst 1, 1) := by decide +kernel
theorem dX11_share_41 : decode cX11_share 41 = .ok (.iadd, 1) := by decide +kernel
theorem dX11_share_42 : decode cX11_share 42 = .ok (.iaload, 1) := by decide +kernel
theorem dX11_share_43 : decode cX11_share 43 = .ok (.i2l, 1) := by decide +kernel
theorem dX11_share_44 : decode cX11_share 44 = .ok (.aload_n 0, 1) := by decide +kernel
theorem dX11_share_45 : decode cX11_share 45 = .ok (.iconst 2, 1) := by decide +kernel
theorem dX11_share_46 : decode cX11_share 46 = .ok (.invokevirtual 318, 3) := by decide +kernel
theorem dX11_share_49 : decode cX11_share 49 = .ok (.i2l, 1) := by decide +kernel
theorem dX11_share_50 : decode cX11_share 50 = .ok (.invokevirtual 417, 3) := by decide +kernel
theorem dX11_share_53 : decode cX11_share 53 = .ok (.ireturn, 1) := by decide +kernel
theorem dX11_copyBeds_0 : decode cX11_copyBeds 0 = .ok (.iload_n 1, 1) := by decide +kernel
theorem dX11_copyBeds_1 : decode cX11_copyBeds 1 = .ok (.invokestatic 110, 3) := by decide +kernel
theorem dX11_copyBeds_4 : decode cX11_copyBeds 4 = .ok (.ifCond .ne 9, 3) := by decide +kernel
theorem dX11_copyBeds_7 : decode cX11_copyBeds 7 = .ok (.aload_n 0, 1) := by decide +kernel
theorem dX11_copyBeds_8 : decode cX11_copyBeds 8 = .ok (.iconst 1, 1) := by decide +kernel
theorem dX11_copyBeds_9 : decode cX11_copyBeds 9 = .ok (.invokevirtual 99, 3) := by decide +kernel
theorem dX11_copyBeds_12 : decode cX11_copyBeds 12 = .ok (.ireturn, 1) := by decide +kernel
theorem dX11_copyBeds_13 : decode cX11_copyBeds 13 = .ok (.aload_n 0, 1) := by decide +kernel
theorem dX11_copyBeds_14 : decode cX11_copyBeds 14 = .ok (.getfield 24, 3) := by decide +kernel
theorem dX11_copyBeds_17 : decode cX11_copyBeds 17 = .ok (.iload_n 1, 1) := by decide +kernel
theorem dX11_copyBeds_18 : decode cX11_copyBeds 18 = .ok (.iaload, 1) := by decide +kernel
theorem dX11_copyBeds_19 : decode cX11_copyBeds 19 = .ok (.iconst (-1), 1) := by decide +kernel
theorem dX11_copyBeds_20 : decode cX11_copyBeds 20 = .ok (.if_icmp .ne 9, 3) := by decide +kernel
theorem dX11_copyBeds_23 : decode cX11_copyBeds 23 = .ok (.aload_n 0, 1) := by decide +kernel
theorem dX11_copyBeds_24 : decode cX11_copyBeds 24 = .ok (.iconst 2, 1) := by decide +kernel
theorem dX11_copyBeds_25 : decode cX11_copyBeds 25 = .ok (.invokevirtual 99, 3) := by decide +kernel
theorem dX11_copyBeds_28 : decode cX11_copyBeds 28 = .ok (.ireturn, 1) := by decide +kernel
theorem dX11_copyBeds_29 : decode cX11_copyBeds 29 = .ok (.aload_n 0, 1) := by decide +kernel
theorem dX11_copyBeds_30 : decode cX11_copyBeds 30 = .ok (.getfield 24, 3) := by decide +kernel
theorem dX11_copyBeds_33 : decode cX11_copyBeds 33 = .ok (.iload_n 1, 1) := by decide +kernel
theorem dX11_copyBeds_34 : decode cX11_copyBeds 34 = .ok (.iaload, 1) := by decide +kernel
theorem dX11_copyBeds_35 : decode cX11_copyBeds 35 = .ok (.aload_n 0, 1) := by decide +kernel
theorem dX11_copyBeds_36 : decode cX11_copyBeds 36 = .ok (.getfield 7, 3) := by decide +kernel
theorem dX11_copyBeds_39 : decode cX11_copyBeds 39 = .ok (.iconst 0, 1) := by decide +kernel
theorem dX11_copyBeds_40 : decode cX11_copyBeds 40 = .ok (.iaload, 1) := by decide +kernel
theorem dX11_copyBeds_41 : decode cX11_copyBeds 41 = .ok (.if_icmp .ge 9, 3) := by decide +kernel
theorem dX11_copyBeds_44 : decode cX11_copyBeds 44 = .ok (.aload_n 0, 1) := by decide +kernel
theorem dX11_copyBeds_45 : decode cX11_copyBeds 45 = .ok (.iconst 3, 1) := by decide +kernel
theorem dX11_copyBeds_46 : decode cX11_copyBeds 46 = .ok (.invokevirtual 99, 3) := by decide +kernel
theorem dX11_copyBeds_49 : decode cX11_copyBeds 49 = .ok (.ireturn, 1) := by decide +kernel
theorem dX11_copyBeds_50 : decode cX11_copyBeds 50 = .ok (.iconst 0, 1) := by decide +kernel
theorem dX11_copyBeds_51 : decode cX11_copyBeds 51 = .ok (.istore_n 2, 1) := by decide +kernel
theorem dX11_copyBeds_52 : decode cX11_copyBeds 52 = .ok (.iload_n 2, 1) := by decide +kernel
theorem dX11_copyBeds_53 : decode cX11_copyBeds 53 = .ok (.aload_n 0, 1) := by decide +kernel
theorem dX11_copyBeds_54 : decode cX11_copyBeds 54 = .ok (.getfield 7, 3) := by decide +kernel
theorem dX11_copyBeds_57 : decode cX11_copyBeds 57 = .ok (.iconst 0, 1) := by decide +kernel
theorem dX11_copyBeds_58 : decode cX11_copyBeds 58 = .ok (.iaload, 1) := by decide +kernel
theorem dX11_copyBeds_59 : decode cX11_copyBeds 59 = .ok (.if_icmp .ge 39, 3) := by decide +kernel
theorem dX11_copyBeds_62 : decode cX11_copyBeds 62 = .ok (.aload_n 0, 1) := by decide +kernel
theorem dX11_copyBeds_63 : decode cX11_copyBeds 63 = .ok (.getfield 27, 3) := by decide +kernel
theorem dX11_copyBeds_66 : decode cX11_copyBeds 66 = .ok (.bipush 60, 2) := by decide +kernel
theorem dX11_copyBeds_68 : decode cX11_copyBeds 68 = .ok (.iload_n 1, 1) := by decide +kernel
theorem dX11_copyBeds_69 : decode cX11_copyBeds 69 = .ok (.imul, 1) := by decide +kernel
theorem dX11_copyBeds_70 : decode cX11_copyBeds 70 = .ok (.iload_n 2, 1) := by decide +kernel
theorem dX11_copyBeds_71 : decode cX11_copyBeds 71 = .ok (.iadd, 1) := by decide +kernel
theorem dX11_copyBeds_72 : decode cX11_copyBeds 72 = .ok (.aload_n 0, 1) := by decide +kernel
theorem dX11_copyBeds_73 : decode cX11_copyBeds 73 = .ok (.getfield 7, 3) := by decide +kernel
theorem dX11_copyBeds_76 : decode cX11_copyBeds 76 = .ok (.iload_n 2, 1) := by decide +kernel
theorem dX11_copyBeds_77 : decode cX11_copyBeds 77 = .ok (.invokestatic 216, 3) := by decide +kernel
theorem dX11_copyBeds_80 : decode cX11_copyBeds 80 = .ok (.iaload, 1) := by decide +kernel
theorem dX11_copyBeds_81 : decode cX11_copyBeds 81 = .ok (.i2l, 1) := by decide +kernel
theorem dX11_copyBeds_82 : decode cX11_copyBeds 82 = .ok (.aload_n 0, 1) := by decide +kernel
theorem dX11_copyBeds_83 : decode cX11_copyBeds 83 = .ok (.getfield 21, 3) := by decide +kernel
theorem dX11_copyBeds_86 : decode cX11_copyBeds 86 = .ok (.iload_n 1, 1) := by decide +kernel
theorem dX11_copyBeds_87 : decode cX11_copyBeds 87 = .ok (.iaload, 1) := by decide +kernel
theorem dX11_copyBeds_88 : decode cX11_copyBeds 88 = .ok (.invokestatic 117, 3) := by decide +kernel
theorem dX11_copyBeds_91 : decode cX11_copyBeds 91 = .ok (.lastore, 1) := by decide +kernel
theorem dX11_copyBeds_92 : decode cX11_copyBeds 92 = .ok (.iinc 2 1, 3) := by decide +kernel
theorem dX11_copyBeds_95 : decode cX11_copyBeds 95 = .ok (.goto (-43), 3) := by decide +kernel
theorem dX11_copyBeds_98 : decode cX11_copyBeds 98 = .ok (.aload_n 0, 1) := by decide +kernel
theorem dX11_copyBeds_99 : decode cX11_copyBeds 99 = .ok (.aload_n 0, 1) := by decide +kernel
theorem dX11_copyBeds_100 : decode cX11_copyBeds 100 = .ok (.getfield 7, 3) := by decide +kernel
theorem dX11_copyBeds_103 : decode cX11_copyBeds 103 = .ok (.iconst 0, 1) := by decide +kernel
theorem dX11_copyBeds_104 : decode cX11_copyBeds 104 = .ok (.iaload, 1) := by decide +kernel
theorem dX11_copyBeds_105 : decode cX11_copyBeds 105 = .ok (.invokevirtual 103, 3) := by decide +kernel
theorem dX11_copyBeds_108 : decode cX11_copyBeds 108 = .ok (.ireturn, 1) := by decide +kernel
theorem dX11_draw_0 : decode cX11_draw 0 = .ok (.aload_n 0, 1) := by decide +kernel
theorem dX11_draw_1 : decode cX11_draw 1 = .ok (.aload_n 0, 1) := by decide +kernel
theorem dX11_draw_2 : decode cX11_draw 2 = .ok (.getfield 447, 3) := by decide +kernel
theorem dX11_draw_5 : decode cX11_draw 5 = .ok (.sipush 3229, 3) := by decide +kernel
theorem dX11_draw_8 : decode cX11_draw 8 = .ok (.imul, 1) := by decide +kernel
theorem dX11_draw_9 : decode cX11_draw 9 = .ok (.sipush 11453, 3) := by decide +kernel
theorem dX11_draw_12 : decode cX11_draw 12 = .ok (.iadd, 1) := by decide +kernel
theorem dX11_draw_13 : decode cX11_draw 13 = .ok (.ldc_w 450, 3) := by decide +kernel
theorem dX11_draw_16 : decode cX11_draw 16 = .ok (.irem, 1) := by decide +kernel
theorem dX11_draw_17 : decode cX11_draw 17 = .ok (.putfield 447, 3) := by decide +kernel
theorem dX11_draw_20 : decode cX11_draw 20 = .ok (.aload_n 0, 1) := by decide +kernel
theorem dX11_draw_21 : decode cX11_draw 21 = .ok (.getfield 447, 3) := by decide +kernel
theorem dX11_draw_24 : decode cX11_draw 24 = .ok (.bipush 8, 2) := by decide +kernel
theorem dX11_draw_26 : decode cX11_draw 26 = .ok (.idiv, 1) := by decide +kernel
theorem dX11_draw_27 : decode cX11_draw 27 = .ok (.iload_n 1, 1) := by decide +kernel
theorem dX11_draw_28 : decode cX11_draw 28 = .ok (.irem, 1) := by decide +kernel
theorem dX11_draw_29 : decode cX11_draw 29 = .ok (.ireturn, 1) := by decide +kernel
theorem dX11_makesBy_0 : decode cX11_makesBy 0 = .ok (.aload_n 0, 1) := by decide +kernel
theorem dX11_makesBy_1 : decode cX11_makesBy 1 = .ok (.iload_n 1, 1) := by decide +kernel
theorem dX11_makesBy_2 : decode cX11_makesBy 2 = .ok (.invokevirtual 336, 3) := by decide +kernel
theorem dX11_makesBy_5 : decode cX11_makesBy 5 = .ok (.istore_n 2, 1) := by decide +kernel
theorem dX11_makesBy_6 : decode cX11_makesBy 6 = .ok (.iload_n 2, 1) := by decide +kernel
theorem dX11_makesBy_7 : decode cX11_makesBy 7 = .ok (.iconst (-1), 1) := by decide +kernel
theorem dX11_makesBy_8 : decode cX11_makesBy 8 = .ok (.if_icmp .ne 5, 3) := by decide +kernel
theorem dX11_makesBy_11 : decode cX11_makesBy 11 = .ok (.iconst 0, 1) := by decide +kernel
theorem dX11_makesBy_12 : decode cX11_makesBy 12 = .ok (.ireturn, 1) := by decide +kernel
theorem dX11_makesBy_13 : decode cX11_makesBy 13 = .ok (.aload_n 0, 1) := by decide +kernel
theorem dX11_makesBy_14 : decode cX11_makesBy 14 = .ok (.getfield 83, 3) := by decide +kernel
theorem dX11_makesBy_17 : decode cX11_makesBy 17 = .ok (.iconst 1, 1) := by decide +kernel
theorem dX11_makesBy_18 : decode cX11_makesBy 18 = .ok (.dup2, 1) := by decide +kernel
theorem dX11_makesBy_19 : decode cX11_makesBy 19 = .ok (.iaload, 1) := by decide +kernel
theorem dX11_makesBy_20 : decode cX11_makesBy 20 = .ok (.iload_n 2, 1) := by decide +kernel
theorem dX11_makesBy_21 : decode cX11_makesBy 21 = .ok (.iadd, 1) := by decide +kernel
theorem dX11_makesBy_22 : decode cX11_makesBy 22 = .ok (.iastore, 1) := by decide +kernel
theorem dX11_makesBy_23 : decode cX11_makesBy 23 = .ok (.iconst 1, 1) := by decide +kernel
theorem dX11_makesBy_24 : decode cX11_makesBy 24 = .ok (.ireturn, 1) := by decide +kernel
theorem dX11_picksBy_0 : decode cX11_picksBy 0 = .ok (.aload_n 0, 1) := by decide +kernel
theorem dX11_picksBy_1 : decode cX11_picksBy 1 = .ok (.iload_n 1, 1) := by decide +kernel
theorem dX11_picksBy_2 : decode cX11_picksBy 2 = .ok (.invokevirtual 348, 3) := by decide +kernel
theorem dX11_picksBy_5 : decode cX11_picksBy 5 = .ok (.istore_n 2, 1) := by decide +kernel
theorem dX11_picksBy_6 : decode cX11_picksBy 6 = .ok (.aload_n 0, 1) := by decide +kernel
theorem dX11_picksBy_7 : decode cX11_picksBy 7 = .ok (.getfield 83, 3) := by decide +kernel
theorem dX11_picksBy_10 : decode cX11_picksBy 10 = .ok (.iconst 2, 1) := by decide +kernel
theorem dX11_picksBy_11 : decode cX11_picksBy 11 = .ok (.dup2, 1) := by decide +kernel
theorem dX11_picksBy_12 : decode cX11_picksBy 12 = .ok (.iaload, 1) := by decide +kernel
theorem dX11_picksBy_13 : decode cX11_picksBy 13 = .ok (.iload_n 2, 1) := by decide +kernel
theorem dX11_picksBy_14 : decode cX11_picksBy 14 = .ok (.iadd, 1) := by decide +kernel
theorem dX11_picksBy_15 : decode cX11_picksBy 15 = .ok (.iastore, 1) := by decide +kernel
theorem dX11_picksBy_16 : decode cX11_picksBy 16 = .ok (.iload_n 2, 1) := by decide +kernel
theorem dX11_picksBy_17 : decode cX11_picksBy 17 = .ok (.ifCond .le 7, 3) := by decide +kernel
theorem dX11_picksBy_20 : decode cX11_picksBy 20 = .ok (.iconst 1, 1) := by decide +kernel
theorem dX11_picksBy_21 : decode cX11_picksBy 21 = .ok (.goto 4, 3) := by decide +kernel
theorem dX11_picksBy_24 : decode cX11_picksBy 24 = .ok (.iconst 0, 1) := by decide +kernel
theorem dX11_picksBy_25 : decode cX11_picksBy 25 = .ok (.ireturn, 1) := by decide +kernel
theorem dX11_nightsBy_0 : decode cX11_nightsBy 0 = .ok (.aload_n 0, 1) := by decide +kernel
theorem dX11_nightsBy_1 : decode cX11_nightsBy 1 = .ok (.getfield 7, 3) := by decide +kernel
theorem dX11_nightsBy_4 : decode cX11_nightsBy 4 = .ok (.iconst 5, 1) := by decide +kernel
theorem dX11_nightsBy_5 : decode cX11_nightsBy 5 = .ok (.iaload, 1) := by decide +kernel
theorem dX11_nightsBy_6 : decode cX11_nightsBy 6 = .ok (.iload_n 1, 1) := by decide +kernel
theorem dX11_nightsBy_7 : decode cX11_nightsBy 7 = .ok (.iadd, 1) := by decide +kernel
theorem dX11_nightsBy_8 : decode cX11_nightsBy 8 = .ok (.sipush 9999, 3) := by decide +kernel
theorem dX11_nightsBy_11 : decode cX11_nightsBy 11 = .ok (.if_icmp .le 5, 3) := by decide +kernel
theorem dX11_nightsBy_14 : decode cX11_nightsBy 14 = .ok (.iconst 0, 1) := by decide +kernel
theorem dX11_nightsBy_15 : decode cX11_nightsBy 15 = .ok (.ireturn, 1) := by decide +kernel
theorem dX11_nightsBy_16 : decode cX11_nightsBy 16 = .ok (.aload_n 0, 1) := by decide +kernel
theorem dX11_nightsBy_17 : decode cX11_nightsBy 17 = .ok (.iload_n 1, 1) := by decide +kernel
theorem dX11_nightsBy_18 : decode cX11_nightsBy 18 = .ok (.invokevirtual 356, 3) := by decide +kernel
theorem dX11_nightsBy_21 : decode cX11_nightsBy 21 = .ok (.aload_n 0, 1) := by decide +kernel
theorem dX11_nightsBy_22 : decode cX11_nightsBy 22 = .ok (.getfield 83, 3) := by decide +kernel
theorem dX11_nightsBy_25 : decode cX11_nightsBy 25 = .ok (.iconst 3, 1) := by decide +kernel
theorem dX11_nightsBy_26 : decode cX11_nightsBy 26 = .ok (.dup2, 1) := by decide +kernel
theorem dX11_nightsBy_27 : decode cX11_nightsBy 27 = .ok (.iaload, 1) := by decide +kernel
theorem dX11_nightsBy_28 : decode cX11_nightsBy 28 = .ok (.iload_n 1, 1) := by decide +kernel
theorem dX11_nightsBy_29 : decode cX11_nightsBy 29 = .ok (.iadd, 1) := by decide +kernel
theorem dX11_nightsBy_30 : decode cX11_nightsBy 30 = .ok (.iastore, 1) := by decide +kernel
theorem dX11_nightsBy_31 : decode cX11_nightsBy 31 = .ok (.iconst 1, 1) := by decide +kernel
theorem dX11_nightsBy_32 : decode cX11_nightsBy 32 = .ok (.ireturn, 1) := by decide +kernel
theorem dX11_doesAny_0 : decode cX11_doesAny 0 = .ok (.aload_n 0, 1) := by decide +kernel
theorem dX11_doesAny_1 : decode cX11_doesAny 1 = .ok (.getfield 7, 3) := by decide +kernel
theorem dX11_doesAny_4 : decode cX11_doesAny 4 = .ok (.iconst 2, 1) := by decide +kernel
theorem dX11_doesAny_5 : decode cX11_doesAny 5 = .ok (.iaload, 1) := by decide +kernel
theorem dX11_doesAny_6 : decode cX11_doesAny 6 = .ok (.ifCond .eq 12, 3) := by decide +kernel
theorem dX11_doesAny_9 : decode cX11_doesAny 9 = .ok (.aload_n 0, 1) := by decide +kernel
theorem dX11_doesAny_10 : decode cX11_doesAny 10 = .ok (.getfield 7, 3) := by decide +kernel
theorem dX11_doesAny_13 : decode cX11_doesAny 13 = .ok (.iconst 3, 1) := by decide +kernel
theorem dX11_doesAny_14 : decode cX11_doesAny 14 = .ok (.iaload, 1) := by decide +kernel
theorem dX11_doesAny_15 : decode cX11_doesAny 15 = .ok (.ifCond .ne 5, 3) := by decide +kernel
theorem dX11_doesAny_18 : decode cX11_doesAny 18 = .ok (.iconst 0, 1) := by decide +kernel
theorem dX11_doesAny_19 : decode cX11_doesAny 19 = .ok (.ireturn, 1) := by decide +kernel
theorem dX11_doesAny_20 : decode cX11_doesAny 20 = .ok (.aload_n 0, 1) := by decide +kernel
theorem dX11_doesAny_21 : decode cX11_doesAny 21 = .ok (.aload_n 0, 1) := by decide +kernel
theorem dX11_doesAny_22 : decode cX11_doesAny 22 = .ok (.getfield 7, 3) := by decide +kernel
theorem dX11_doesAny_25 : decode cX11_doesAny 25 = .ok (.iconst 2, 1) := by decide +kernel
theorem dX11_doesAny_26 : decode cX11_doesAny 26 = .ok (.iaload, 1) := by decide +kernel
theorem dX11_doesAny_27 : decode cX11_doesAny 27 = .ok (.invokevirtual 451, 3) := by decide +kernel
theorem dX11_doesAny_30 : decode cX11_doesAny 30 = .ok (.istore_n 1, 1) := by decide +kernel
theorem dX11_doesAny_31 : decode cX11_doesAny 31 = .ok (.aload_n 0, 1) := by decide +kernel
theorem dX11_doesAny_32 : decode cX11_doesAny 32 = .ok (.aload_n 0, 1) := by decide +kernel
theorem dX11_doesAny_33 : decode cX11_doesAny 33 = .ok (.getfield 7, 3) := by decide +kernel
theorem dX11_doesAny_36 : decode cX11_doesAny 36 = .ok (.iconst 3, 1) := by decide +kernel
theorem dX11_doesAny_37 : decode cX11_doesAny 37 = .ok (.iaload, 1) := by decide +kernel
theorem dX11_doesAny_38 : decode cX11_doesAny 38 = .ok (.invokevirtual 451, 3) := by decide +kernel
theorem dX11_doesAny_41 : decode cX11_doesAny 41 = .ok (.istore_n 2, 1) := by decide +kernel
theorem dX11_doesAny_42 : decode cX11_doesAny 42 = .ok (.aload_n 0, 1) := by decide +kernel
theorem dX11_doesAny_43 : decode cX11_doesAny 43 = .ok (.bipush 16, 2) := by decide +kernel
theorem dX11_doesAny_45 : decode cX11_doesAny 45 = .ok (.invokevirtual 451, 3) := by decide +kernel
theorem dX11_doesAny_48 : decode cX11_doesAny 48 = .ok (.aload_n 0, 1) := by decide +kernel
theorem dX11_doesAny_49 : decode cX11_doesAny 49 = .ok (.getfield 7, 3) := by decide +kernel
theorem dX11_doesAny_52 : decode cX11_doesAny 52 = .ok (.iconst 4, 1) := by decide +kernel
theorem dX11_doesAny_53 : decode cX11_doesAny 53 = .ok (.iaload, 1) := by decide +kernel
theorem dX11_doesAny_54 : decode cX11_doesAny 54 = .ok (.if_icmp .ge 11, 3) := by decide +kernel
theorem dX11_doesAny_57 : decode cX11_doesAny 57 = .ok (.aload_n 0, 1) := by decide +kernel
theorem dX11_doesAny_58 : decode cX11_doesAny 58 = .ok (.iload_n 1, 1) := by decide +kernel
theorem dX11_doesAny_59 : decode cX11_doesAny 59 = .ok (.invokevirtual 454, 3) := by decide +kernel
theorem dX11_doesAny_62 : decode cX11_doesAny 62 = .ok (.goto 8, 3) := by decide +kernel
theorem dX11_doesAny_65 : decode cX11_doesAny 65 = .ok (.aload_n 0, 1) := by decide +kernel
theorem dX11_doesAny_66 : decode cX11_doesAny 66 = .ok (.iload_n 2, 1) := by decide +kernel
theorem dX11_doesAny_67 : decode cX11_doesAny 67 = .ok (.invokevirtual 457, 3) := by decide +kernel
theorem dX11_doesAny_70 : decode cX11_doesAny 70 = .ok (.ireturn, 1) := by decide +kernel
theorem dX11_does_0 : decode cX11_does 0 = .ok (.aload_n 0, 1) := by decide +kernel
theorem dX11_does_1 : decode cX11_does 1 = .ok (.getfield 7, 3) := by decide +kernel
theorem dX11_does_4 : decode cX11_does 4 = .ok (.iload_n 1, 1) := by decide +kernel
theorem dX11_does_5 : decode cX11_does 5 = .ok (.iconst 1, 1) := by decide +kernel
theorem dX11_does_6 : decode cX11_does 6 = .ok (.iadd, 1) := by decide +kernel
theorem dX11_does_7 : decode cX11_does 7 = .ok (.iaload, 1) := by decide +kernel
theorem dX11_does_8 : decode cX11_does 8 = .ok (.istore_n 2, 1) := by decide +kernel
theorem dX11_does_9 : decode cX11_does 9 = .ok (.aload_n 0, 1) := by decide +kernel
theorem dX11_does_10 : decode cX11_does 10 = .ok (.getfield 7, 3) := by decide +kernel
theorem dX11_does_13 : decode cX11_does 13 = .ok (.iload_n 1, 1) := by decide +kernel
theorem dX11_does_14 : decode cX11_does 14 = .ok (.iaload, 1) := by decide +kernel
theorem dX11_does_15 : decode cX11_does 15 = .ok (.tableswitch 87 12 17 #[37, 43, 57, 63, 69, 82], 37) := by decide +kernel
theorem dX11_does_52 : decode cX11_does 52 = .ok (.aload_n 0, 1) := by decide +kernel
theorem dX11_does_53 : decode cX11_does 53 = .ok (.iload_n 2, 1) := by decide +kernel
theorem dX11_does_54 : decode cX11_does 54 = .ok (.invokevirtual 454, 3) := by decide +kernel
theorem dX11_does_57 : decode cX11_does 57 = .ok (.ireturn, 1) := by decide +kernel
theorem dX11_does_58 : decode cX11_does 58 = .ok (.aload_n 0, 1) := by decide +kernel
theorem dX11_does_59 : decode cX11_does 59 = .ok (.iload_n 2, 1) := by decide +kernel
theorem dX11_does_60 : decode cX11_does 60 = .ok (.aload_n 0, 1) := by decide +kernel
theorem dX11_does_61 : decode cX11_does 61 = .ok (.getfield 7, 3) := by decide +kernel
theorem dX11_does_64 : decode cX11_does 64 = .ok (.iload_n 1, 1) := by decide +kernel
theorem dX11_does_65 : decode cX11_does 65 = .ok (.iconst 2, 1) := by decide +kernel
theorem dX11_does_66 : decode cX11_does 66 = .ok (.iadd, 1) := by decide +kernel
theorem dX11_does_67 : decode cX11_does 67 = .ok (.iaload, 1) := by decide +kernel
theorem dX11_does_68 : decode cX11_does 68 = .ok (.invokevirtual 342, 3) := by decide +kernel
theorem dX11_does_71 : decode cX11_does 71 = .ok (.ireturn, 1) := by decide +kernel
theorem dX11_does_72 : decode cX11_does 72 = .ok (.aload_n 0, 1) := by decide +kernel
theorem dX11_does_73 : decode cX11_does 73 = .ok (.iload_n 2, 1) := by decide +kernel
theorem dX11_does_74 : decode cX11_does 74 = .ok (.invokevirtual 457, 3) := by decide +kernel
theorem dX11_does_77 : decode cX11_does 77 = .ok (.ireturn, 1) := by decide +kernel
theorem dX11_does_78 : decode cX11_does 78 = .ok (.aload_n 0, 1) := by decide +kernel
theorem dX11_does_79 : decode cX11_does 79 = .ok (.iload_n 2, 1) := by decide +kernel
theorem dX11_does_80 : decode cX11_does 80 = .ok (.invokevirtual 460, 3) := by decide +kernel
theorem dX11_does_83 : decode cX11_does 83 = .ok (.ireturn, 1) := by decide +kernel
theorem dX11_does_84 : decode cX11_does 84 = .ok (.aload_n 0, 1) := by decide +kernel
theorem dX11_does_85 : decode cX11_does 85 = .ok (.invokevirtual 339, 3) := by decide +kernel
theorem dX11_does_88 : decode cX11_does 88 = .ok (.ifCond .le 7, 3) := by decide +kernel
theorem dX11_does_91 : decode cX11_does 91 = .ok (.iconst 1, 1) := by decide +kernel
theorem dX11_does_92 : decode cX11_does 92 = .ok (.goto 4, 3) := by decide +kernel
theorem dX11_does_95 : decode cX11_does 95 = .ok (.iconst 0, 1) := by decide +kernel
theorem dX11_does_96 : decode cX11_does 96 = .ok (.ireturn, 1) := by decide +kernel
theorem dX11_does_97 : decode cX11_does 97 = .ok (.aload_n 0, 1) := by decide +kernel
theorem dX11_does_98 : decode cX11_does 98 = .ok (.invokevirtual 463, 3) := by decide +kernel
theorem dX11_does_101 : decode cX11_does 101 = .ok (.ireturn, 1) := by decide +kernel
theorem dX11_does_102 : decode cX11_does 102 = .ok (.iconst 1, 1) := by decide +kernel
theorem dX11_does_103 : decode cX11_does 103 = .ok (.ireturn, 1) := by decide +kernel
theorem dX11_holds_0 : decode cX11_holds 0 = .ok (.aload_n 0, 1) := by decide +kernel
theorem dX11_holds_1 : decode cX11_holds 1 = .ok (.getfield 7, 3) := by decide +kernel
theorem dX11_holds_4 : decode cX11_holds 4 = .ok (.iload_n 1, 1) := by decide +kernel
theorem dX11_holds_5 : decode cX11_holds 5 = .ok (.iaload, 1) := by decide +kernel
theorem dX11_holds_6 : decode cX11_holds 6 = .ok (.sipush 1800, 3) := by decide +kernel
theorem dX11_holds_9 : decode cX11_holds 9 = .ok (.isub, 1) := by decide +kernel
theorem dX11_holds_10 : decode cX11_holds 10 = .ok (.istore_n 2, 1) := by decide +kernel
theorem dX11_holds_11 : decode cX11_holds 11 = .ok (.aload_n 0, 1) := by decide +kernel
theorem dX11_holds_12 : decode cX11_holds 12 = .ok (.getfield 7, 3) := by decide +kernel
theorem dX11_holds_15 : decode cX11_holds 15 = .ok (.iload_n 1, 1) := by decide +kernel
theorem dX11_holds_16 : decode cX11_holds 16 = .ok (.iconst 1, 1) := by decide +kernel
theorem dX11_holds_17 : decode cX11_holds 17 = .ok (.iadd, 1) := by decide +kernel
theorem dX11_holds_18 : decode cX11_holds 18 = .ok (.iaload, 1) := by decide +kernel
theorem dX11_holds_19 : decode cX11_holds 19 = .ok (.istore_n 3, 1) := by decide +kernel
theorem dX11_holds_20 : decode cX11_holds 20 = .ok (.iload_n 2, 1) := by decide +kernel
theorem dX11_holds_21 : decode cX11_holds 21 = .ok (.bipush 22, 2) := by decide +kernel
theorem dX11_holds_23 : decode cX11_holds 23 = .ok (.if_icmp .ne 16, 3) := by decide +kernel
theorem dX11_holds_26 : decode cX11_holds 26 = .ok (.aload_n 0, 1) := by decide +kernel
theorem dX11_holds_27 : decode cX11_holds 27 = .ok (.aload_n 0, 1) := by decide +kernel
theorem dX11_holds_28 : decode cX11_holds 28 = .ok (.getfield 7, 3) := by decide +kernel
theorem dX11_holds_31 : decode cX11_holds 31 = .ok (.bipush 6, 2) := by decide +kernel
theorem dX11_holds_33 : decode cX11_holds 33 = .ok (.iaload, 1) := by decide +kernel
theorem dX11_holds_34 : decode cX11_holds 34 = .ok (.iload_n 3, 1) := by decide +kernel
theorem dX11_holds_35 : decode cX11_holds 35 = .ok (.invokevirtual 236, 3) := by decide +kernel
theorem dX11_holds_38 : decode cX11_holds 38 = .ok (.ireturn, 1) := by decide +kernel
theorem dX11_holds_39 : decode cX11_holds 39 = .ok (.iload_n 2, 1) := by decide +kernel
theorem dX11_holds_40 : decode cX11_holds 40 = .ok (.iconst 5, 1) := by decide +kernel
theorem dX11_holds_41 : decode cX11_holds 41 = .ok (.if_icmp .ne 15, 3) := by decide +kernel
theorem dX11_holds_44 : decode cX11_holds 44 = .ok (.aload_n 0, 1) := by decide +kernel
theorem dX11_holds_45 : decode cX11_holds 45 = .ok (.getfield 7, 3) := by decide +kernel
theorem dX11_holds_48 : decode cX11_holds 48 = .ok (.iload_n 3, 1) := by decide +kernel
theorem dX11_holds_49 : decode cX11_holds 49 = .ok (.invokestatic 216, 3) := by decide +kernel
theorem dX11_holds_52 : decode cX11_holds 52 = .ok (.iaload, 1) := by decide +kernel
theorem dX11_holds_53 : decode cX11_holds 53 = .ok (.goto 14, 3) := by decide +kernel
theorem dX11_holds_56 : decode cX11_holds 56 = .ok (.aload_n 0, 1) := by decide +kernel
theorem dX11_holds_57 : decode cX11_holds 57 = .ok (.getfield 7, 3) := by decide +kernel
theorem dX11_holds_60 : decode cX11_holds 60 = .ok (.iload_n 3, 1) := by decide +kernel
theorem dX11_holds_61 : decode cX11_holds 61 = .ok (.invokestatic 242, 3) := by decide +kernel
theorem dX11_holds_64 : decode cX11_holds 64 = .ok (.iconst 1, 1) := by decide +kernel
theorem dX11_holds_65 : decode cX11_holds 65 = .ok (.iadd, 1) := by decide +kernel
theorem dX11_holds_66 : decode cX11_holds 66 = .ok (.iaload, 1) := by decide +kernel
theorem dX11_holds_67 : decode cX11_holds 67 = .ok (.istore 4, 2) := by decide +kernel
theorem dX11_holds_69 : decode cX11_holds 69 = .ok (.aload_n 0, 1) := by decide +kernel
theorem dX11_holds_70 : decode cX11_holds 70 = .ok (.getfield 7, 3) := by decide +kernel
theorem dX11_holds_73 : decode cX11_holds 73 = .ok (.iload_n 1, 1) := by decide +kernel
theorem dX11_holds_74 : decode cX11_holds 74 = .ok (.iconst 5, 1) := by decide +kernel
theorem dX11_holds_75 : decode cX11_holds 75 = .ok (.iadd, 1) := by decide +kernel
theorem dX11_holds_76 : decode cX11_holds 76 = .ok (.iaload, 1) := by decide +kernel
theorem dX11_holds_77 : decode cX11_holds 77 = .ok (.bipush 60, 2) := by decide +kernel
theorem dX11_holds_79 : decode cX11_holds 79 = .ok (.if_icmp .ne 24, 3) := by decide +kernel
theorem dX11_holds_82 : decode cX11_holds 82 = .ok (.iload 4, 2) := by decide +kernel
theorem dX11_holds_84 : decode cX11_holds 84 = .ok (.aload_n 0, 1) := by decide +kernel
theorem dX11_holds_85 : decode cX11_holds 85 = .ok (.getfield 7, 3) := by decide +kernel
theorem dX11_holds_88 : decode cX11_holds 88 = .ok (.iload_n 1, 1) := by decide +kernel
theorem dX11_holds_89 : decode cX11_holds 89 = .ok (.iconst 2, 1) := by decide +kernel
theorem dX11_holds_90 : decode cX11_holds 90 = .ok (.iadd, 1) := by decide +kernel
theorem dX11_holds_91 : decode cX11_holds 91 = .ok (.iaload, 1) := by decide +kernel
theorem dX11_holds_92 : decode cX11_holds 92 = .ok (.if_icmp .ge 7, 3) := by decide +kernel
theorem dX11_holds_95 : decode cX11_holds 95 = .ok (.iconst 1, 1) := by decide +kernel
theorem dX11_holds_96 : decode cX11_holds 96 = .ok (.goto 59, 3) := by decide +kernel
theorem dX11_holds_99 : decode cX11_holds 99 = .ok (.iconst 0, 1) := by decide +kernel
theorem dX11_holds_100 : decode cX11_holds 100 = .ok (.goto 55, 3) := by decide +kernel
theorem dX11_holds_103 : decode cX11_holds 103 = .ok (.aload_n 0, 1) := by decide +kernel
theorem dX11_holds_104 : decode cX11_holds 104 = .ok (.getfield 7, 3) := by decide +kernel
theorem dX11_holds_107 : decode cX11_holds 107 = .ok (.iload_n 1, 1) := by decide +kernel
theorem dX11_holds_108 : decode cX11_holds 108 = .ok (.iconst 5, 1) := by decide +kernel
theorem dX11_holds_109 : decode cX11_holds 109 = .ok (.iadd, 1) := by decide +kernel
theorem dX11_holds_110 : decode cX11_holds 110 = .ok (.iaload, 1) := by decide +kernel
theorem dX11_holds_111 : decode cX11_holds 111 = .ok (.bipush 62, 2) := by decide +kernel
theorem dX11_holds_113 : decode cX11_holds 113 = .ok (.if_icmp .ne 24, 3) := by decide +kernel
theorem dX11_holds_116 : decode cX11_holds 116 = .ok (.iload 4, 2) := by decide +kernel
theorem dX11_holds_118 : decode cX11_holds 118 = .ok (.aload_n 0, 1) := by decide +kernel
theorem dX11_holds_119 : decode cX11_holds 119 = .ok (.getfield 7, 3) := by decide +kernel
theorem dX11_holds_122 : decode cX11_holds 122 = .ok (.iload_n 1, 1) := by decide +kernel
theorem dX11_holds_123 : decode cX11_holds 123 = .ok (.iconst 2, 1) := by decide +kernel
theorem dX11_holds_124 : decode cX11_holds 124 = .ok (.iadd, 1) := by decide +kernel
theorem dX11_holds_125 : decode cX11_holds 125 = .ok (.iaload, 1) := by decide +kernel
theorem dX11_holds_126 : decode cX11_holds 126 = .ok (.if_icmp .le 7, 3) := by decide +kernel
theorem dX11_holds_129 : decode cX11_holds 129 = .ok (.iconst 1, 1) := by decide +kernel
theorem dX11_holds_130 : decode cX11_holds 130 = .ok (.goto 25, 3) := by decide +kernel
theorem dX11_holds_133 : decode cX11_holds 133 = .ok (.iconst 0, 1) := by decide +kernel
theorem dX11_holds_134 : decode cX11_holds 134 = .ok (.goto 21, 3) := by decide +kernel
theorem dX11_holds_137 : decode cX11_holds 137 = .ok (.iload 4, 2) := by decide +kernel
theorem dX11_holds_139 : decode cX11_holds 139 = .ok (.aload_n 0, 1) := by decide +kernel
theorem dX11_holds_140 : decode cX11_holds 140 = .ok (.getfield 7, 3) := by decide +kernel
theorem dX11_holds_143 : decode cX11_holds 143 = .ok (.iload_n 1, 1) := by decide +kernel
theorem dX11_holds_144 : decode cX11_holds 144 = .ok (.iconst 2, 1) := by decide +kernel
theorem dX11_holds_145 : decode cX11_holds 145 = .ok (.iadd, 1) := by decide +kernel
theorem dX11_holds_146 : decode cX11_holds 146 = .ok (.iaload, 1) := by decide +kernel
theorem dX11_holds_147 : decode cX11_holds 147 = .ok (.if_icmp .ne 7, 3) := by decide +kernel
theorem dX11_holds_150 : decode cX11_holds 150 = .ok (.iconst 1, 1) := by decide +kernel
theorem dX11_holds_151 : decode cX11_holds 151 = .ok (.goto 4, 3) := by decide +kernel
theorem dX11_holds_154 : decode cX11_holds 154 = .ok (.iconst 0, 1) := by decide +kernel
theorem dX11_holds_155 : decode cX11_holds 155 = .ok (.ireturn, 1) := by decide +kernel
theorem dX11_behindEnds_0 : decode cX11_behindEnds 0 = .ok (.iload_n 1, 1) := by decide +kernel
theorem dX11_behindEnds_1 : decode cX11_behindEnds 1 = .ok (.istore_n 2, 1) := by decide +kernel
theorem dX11_behindEnds_2 : decode cX11_behindEnds 2 = .ok (.iload_n 2, 1) := by decide +kernel
theorem dX11_behindEnds_3 : decode cX11_behindEnds 3 = .ok (.aload_n 0, 1) := by decide +kernel
theorem dX11_behindEnds_4 : decode cX11_behindEnds 4 = .ok (.getfield 7, 3) := by decide +kernel
theorem dX11_behindEnds_7 : decode cX11_behindEnds 7 = .ok (.bipush 7, 2) := by decide +kernel
theorem dX11_behindEnds_9 : decode cX11_behindEnds 9 = .ok (.iaload, 1) := by decide +kernel
theorem dX11_behindEnds_10 : decode cX11_behindEnds 10 = .ok (.if_icmp .ge 105, 3) := by decide +kernel
theorem dX11_behindEnds_13 : decode cX11_behindEnds 13 = .ok (.aload_n 0, 1) := by decide +kernel
theorem dX11_behindEnds_14 : decode cX11_behindEnds 14 = .ok (.getfield 7, 3) := by decide +kernel
theorem dX11_behindEnds_17 : decode cX11_behindEnds 17 = .ok (.bipush 60, 2) := by decide +kernel
theorem dX11_behindEnds_19 : decode cX11_behindEnds 19 = .ok (.bipush 6, 2) := by decide +kernel
theorem dX11_behindEnds_21 : decode cX11_behindEnds 21 = .ok (.iload_n 2, 1) := by decide +kernel
theorem dX11_behindEnds_22 : decode cX11_behindEnds 22 = .ok (.imul, 1) := by decide +kernel
theorem dX11_behindEnds_23 : decode cX11_behindEnds 23 = .ok (.iadd, 1) := by decide +kernel
theorem dX11_behindEnds_24 : decode cX11_behindEnds 24 = .ok (.iaload, 1) := by decide +kernel
theorem dX11_behindEnds_25 : decode cX11_behindEnds 25 = .ok (.bipush 20, 2) := by decide +kernel
theorem dX11_behindEnds_27 : decode cX11_behindEnds 27 = .ok (.if_icmp .ne 88, 3) := by decide +kernel
theorem dX11_behindEnds_30 : decode cX11_behindEnds 30 = .ok (.aload_n 0, 1) := by decide +kernel
theorem dX11_behindEnds_31 : decode cX11_behindEnds 31 = .ok (.getfield 7, 3) := by decide +kernel
theorem dX11_behindEnds_34 : decode cX11_behindEnds 34 = .ok (.bipush 60, 2) := by decide +kernel
theorem dX11_behindEnds_36 : decode cX11_behindEnds 36 = .ok (.bipush 6, 2) := by decide +kernel
theorem dX11_behindEnds_38 : decode cX11_behindEnds 38 = .ok (.iload_n 2, 1) := by decide +kernel
theorem dX11_behindEnds_39 : decode cX11_behindEnds 39 = .ok (.imul, 1) := by decide +kernel
theorem dX11_behindEnds_40 : decode cX11_behindEnds 40 = .ok (.iadd, 1) := by decide +kernel
theorem dX11_behindEnds_41 : decode cX11_behindEnds 41 = .ok (.iconst 4, 1) := by decide +kernel
theorem dX11_behindEnds_42 : decode cX11_behindEnds 42 = .ok (.iadd, 1) := by decide +kernel
theorem dX11_behindEnds_43 : decode cX11_behindEnds 43 = .ok (.iaload, 1) := by decide +kernel
theorem dX11_behindEnds_44 : decode cX11_behindEnds 44 = .ok (.istore_n 3, 1) := by decide +kernel
theorem dX11_behindEnds_45 : decode cX11_behindEnds 45 = .ok (.aload_n 0, 1) := by decide +kernel
theorem dX11_behindEnds_46 : decode cX11_behindEnds 46 = .ok (.getfield 7, 3) := by decide +kernel
theorem dX11_behindEnds_49 : decode cX11_behindEnds 49 = .ok (.bipush 60, 2) := by decide +kernel
theorem dX11_behindEnds_51 : decode cX11_behindEnds 51 = .ok (.bipush 6, 2) := by decide +kernel
theorem dX11_behindEnds_53 : decode cX11_behindEnds 53 = .ok (.iload_n 3, 1) := by decide +kernel
theorem dX11_behindEnds_54 : decode cX11_behindEnds 54 = .ok (.imul, 1) := by decide +kernel
theorem dX11_behindEnds_55 : decode cX11_behindEnds 55 = .ok (.iadd, 1) := by decide +kernel
theorem dX11_behindEnds_56 : decode cX11_behindEnds 56 = .ok (.iaload, 1) := by decide +kernel
theorem dX11_behindEnds_57 : decode cX11_behindEnds 57 = .ok (.bipush 19, 2) := by decide +kernel
theorem dX11_behindEnds_59 : decode cX11_behindEnds 59 = .ok (.if_icmp .ne 16, 3) := by decide +kernel
theorem dX11_behindEnds_62 : decode cX11_behindEnds 62 = .ok (.aload_n 0, 1) := by decide +kernel
theorem dX11_behindEnds_63 : decode cX11_behindEnds 63 = .ok (.getfield 80, 3) := by decide +kernel
theorem dX11_behindEnds_66 : decode cX11_behindEnds 66 = .ok (.iload_n 3, 1) := by decide +kernel
theorem dX11_behindEnds_67 : decode cX11_behindEnds 67 = .ok (.iaload, 1) := by decide +kernel
theorem dX11_behindEnds_68 : decode cX11_behindEnds 68 = .ok (.ifCond .le 7, 3) := by decide +kernel
theorem dX11_behindEnds_71 : decode cX11_behindEnds 71 = .ok (.iconst 1, 1) := by decide +kernel
theorem dX11_behindEnds_72 : decode cX11_behindEnds 72 = .ok (.goto 4, 3) := by decide +kernel
theorem dX11_behindEnds_75 : decode cX11_behindEnds 75 = .ok (.iconst 0, 1) := by decide +kernel
theorem dX11_behindEnds_76 : decode cX11_behindEnds 76 = .ok (.istore 4, 2) := by decide +kernel
theorem dX11_behindEnds_78 : decode cX11_behindEnds 78 = .ok (.aload_n 0, 1) := by decide +kernel
theorem dX11_behindEnds_79 : decode cX11_behindEnds 79 = .ok (.getfield 80, 3) := by decide +kernel
theorem dX11_behindEnds_82 : decode cX11_behindEnds 82 = .ok (.iload_n 3, 1) := by decide +kernel
theorem dX11_behindEnds_83 : decode cX11_behindEnds 83 = .ok (.dup2, 1) := by decide +kernel
theorem dX11_behindEnds_84 : decode cX11_behindEnds 84 = .ok (.iaload, 1) := by decide +kernel
theorem dX11_behindEnds_85 : decode cX11_behindEnds 85 = .ok (.iload 4, 2) := by decide +kernel
theorem dX11_behindEnds_87 : decode cX11_behindEnds 87 = .ok (.ifCond .eq 7, 3) := by decide +kernel
theorem dX11_behindEnds_90 : decode cX11_behindEnds 90 = .ok (.iconst 1, 1) := by decide +kernel
theorem dX11_behindEnds_91 : decode cX11_behindEnds 91 = .ok (.goto 4, 3) := by decide +kernel
theorem dX11_behindEnds_94 : decode cX11_behindEnds 94 = .ok (.iconst 0, 1) := by decide +kernel
theorem dX11_behindEnds_95 : decode cX11_behindEnds 95 = .ok (.isub, 1) := by decide +kernel
theorem dX11_behindEnds_96 : decode cX11_behindEnds 96 = .ok (.iastore, 1) := by decide +kernel
theorem dX11_behindEnds_97 : decode cX11_behindEnds 97 = .ok (.iload 4, 2) := by decide +kernel
theorem dX11_behindEnds_99 : decode cX11_behindEnds 99 = .ok (.ifCond .eq 9, 3) := by decide +kernel
theorem dX11_behindEnds_102 : decode cX11_behindEnds 102 = .ok (.iload_n 3, 1) := by decide +kernel
theorem dX11_behindEnds_103 : decode cX11_behindEnds 103 = .ok (.iconst 1, 1) := by decide +kernel
theorem dX11_behindEnds_104 : decode cX11_behindEnds 104 = .ok (.iadd, 1) := by decide +kernel
theorem dX11_behindEnds_105 : decode cX11_behindEnds 105 = .ok (.goto 6, 3) := by decide +kernel
theorem dX11_behindEnds_108 : decode cX11_behindEnds 108 = .ok (.iload_n 2, 1) := by decide +kernel
theorem dX11_behindEnds_109 : decode cX11_behindEnds 109 = .ok (.iconst 1, 1) := by decide +kernel
theorem dX11_behindEnds_110 : decode cX11_behindEnds 110 = .ok (.iadd, 1) := by decide +kernel
theorem dX11_behindEnds_111 : decode cX11_behindEnds 111 = .ok (.istore_n 2, 1) := by decide +kernel
theorem dX11_behindEnds_112 : decode cX11_behindEnds 112 = .ok (.goto (-110), 3) := by decide +kernel
theorem dX11_behindEnds_115 : decode cX11_behindEnds 115 = .ok (.iload_n 2, 1) := by decide +kernel
theorem dX11_behindEnds_116 : decode cX11_behindEnds 116 = .ok (.ireturn, 1) := by decide +kernel
theorem dX11_lives_0 : decode cX11_lives 0 = .ok (.aload_n 0, 1) := by decide +kernel
theorem dX11_lives_1 : decode cX11_lives 1 = .ok (.iload_n 1, 1) := by decide +kernel
theorem dX11_lives_2 : decode cX11_lives 2 = .ok (.putfield 447, 3) := by decide +kernel
theorem dX11_lives_5 : decode cX11_lives 5 = .ok (.aload_n 0, 1) := by decide +kernel
theorem dX11_lives_6 : decode cX11_lives 6 = .ok (.iconst 0, 1) := by decide +kernel
theorem dX11_lives_7 : decode cX11_lives 7 = .ok (.putfield 466, 3) := by decide +kernel
theorem dX11_lives_10 : decode cX11_lives 10 = .ok (.iconst 0, 1) := by decide +kernel
theorem dX11_lives_11 : decode cX11_lives 11 = .ok (.istore_n 2, 1) := by decide +kernel
theorem dX11_lives_12 : decode cX11_lives 12 = .ok (.iload_n 2, 1) := by decide +kernel
theorem dX11_lives_13 : decode cX11_lives 13 = .ok (.iconst 5, 1) := by decide +kernel
theorem dX11_lives_14 : decode cX11_lives 14 = .ok (.if_icmp .ge 16, 3) := by decide +kernel
theorem dX11_lives_17 : decode cX11_lives 17 = .ok (.aload_n 0, 1) := by decide +kernel
theorem dX11_lives_18 : decode cX11_lives 18 = .ok (.getfield 83, 3) := by decide +kernel
theorem dX11_lives_21 : decode cX11_lives 21 = .ok (.iload_n 2, 1) := by decide +kernel
theorem dX11_lives_22 : decode cX11_lives 22 = .ok (.iconst 0, 1) := by decide +kernel
theorem dX11_lives_23 : decode cX11_lives 23 = .ok (.iastore, 1) := by decide +kernel
theorem dX11_lives_24 : decode cX11_lives 24 = .ok (.iinc 2 1, 3) := by decide +kernel
theorem dX11_lives_27 : decode cX11_lives 27 = .ok (.goto (-15), 3) := by decide +kernel
theorem dX11_lives_30 : decode cX11_lives 30 = .ok (.iconst 0, 1) := by decide +kernel
theorem dX11_lives_31 : decode cX11_lives 31 = .ok (.istore_n 2, 1) := by decide +kernel
theorem dX11_lives_32 : decode cX11_lives 32 = .ok (.iload_n 2, 1) := by decide +kernel
theorem dX11_lives_33 : decode cX11_lives 33 = .ok (.aload_n 0, 1) := by decide +kernel
theorem dX11_lives_34 : decode cX11_lives 34 = .ok (.getfield 7, 3) := by decide +kernel
theorem dX11_lives_37 : decode cX11_lives 37 = .ok (.bipush 7, 2) := by decide +kernel
theorem dX11_lives_39 : decode cX11_lives 39 = .ok (.iaload, 1) := by decide +kernel
theorem dX11_lives_40 : decode cX11_lives 40 = .ok (.if_icmp .ge 144, 3) := by decide +kernel
theorem dX11_lives_43 : decode cX11_lives 43 = .ok (.aload_n 0, 1) := by decide +kernel
theorem dX11_lives_44 : decode cX11_lives 44 = .ok (.getfield 466, 3) := by decide +kernel
theorem dX11_lives_47 : decode cX11_lives 47 = .ok (.sipush 300, 3) := by decide +kernel
theorem dX11_lives_50 : decode cX11_lives 50 = .ok (.if_icmp .ne 11, 3) := by decide +kernel
theorem dX11_lives_53 : decode cX11_lives 53 = .ok (.aload_n 0, 1) := by decide +kernel
theorem dX11_lives_54 : decode cX11_lives 54 = .ok (.getfield 83, 3) := by decide +kernel
theorem dX11_lives_57 : decode cX11_lives 57 = .ok (.iconst 4, 1) := by decide +kernel
theorem dX11_lives_58 : decode cX11_lives 58 = .ok (.iconst 1, 1) := by decide +kernel
theorem dX11_lives_59 : decode cX11_lives 59 = .ok (.iastore, 1) := by decide +kernel
theorem dX11_lives_60 : decode cX11_lives 60 = .ok (.return_, 1) := by decide +kernel
theorem dX11_lives_61 : decode cX11_lives 61 = .ok (.bipush 60, 2) := by decide +kernel
theorem dX11_lives_63 : decode cX11_lives 63 = .ok (.bipush 6, 2) := by decide +kernel
theorem dX11_lives_65 : decode cX11_lives 65 = .ok (.iload_n 2, 1) := by decide +kernel
theorem dX11_lives_66 : decode cX11_lives 66 = .ok (.imul, 1) := by decide +kernel
theorem dX11_lives_67 : decode cX11_lives 67 = .ok (.iadd, 1) := by decide +kernel
theorem dX11_lives_68 : decode cX11_lives 68 = .ok (.istore_n 3, 1) := by decide +kernel
theorem dX11_lives_69 : decode cX11_lives 69 = .ok (.aload_n 0, 1) := by decide +kernel
theorem dX11_lives_70 : decode cX11_lives 70 = .ok (.dup, 1) := by decide +kernel
theorem dX11_lives_71 : decode cX11_lives 71 = .ok (.getfield 466, 3) := by decide +kernel
theorem dX11_lives_74 : decode cX11_lives 74 = .ok (.iconst 1, 1) := by decide +kernel
theorem dX11_lives_75 : decode cX11_lives 75 = .ok (.iadd, 1) := by decide +kernel
theorem dX11_lives_76 : decode cX11_lives 76 = .ok (.putfield 466, 3) := by decide +kernel
theorem dX11_lives_79 : decode cX11_lives 79 = .ok (.aload_n 0, 1) := by decide +kernel
theorem dX11_lives_80 : decode cX11_lives 80 = .ok (.getfield 7, 3) := by decide +kernel
theorem dX11_lives_83 : decode cX11_lives 83 = .ok (.iload_n 3, 1) := by decide +kernel
theorem dX11_lives_84 : decode cX11_lives 84 = .ok (.iaload, 1) := by decide +kernel
theorem dX11_lives_85 : decode cX11_lives 85 = .ok (.bipush 21, 2) := by decide +kernel
theorem dX11_lives_87 : decode cX11_lives 87 = .ok (.if_icmp .ne 4, 3) := by decide +kernel
theorem dX11_lives_90 : decode cX11_lives 90 = .ok (.return_, 1) := by decide +kernel
theorem dX11_lives_91 : decode cX11_lives 91 = .ok (.aload_n 0, 1) := by decide +kernel
theorem dX11_lives_92 : decode cX11_lives 92 = .ok (.getfield 83, 3) := by decide +kernel
theorem dX11_lives_95 : decode cX11_lives 95 = .ok (.iconst 0, 1) := by decide +kernel
theorem dX11_lives_96 : decode cX11_lives 96 = .ok (.dup2, 1) := by decide +kernel
theorem dX11_lives_97 : decode cX11_lives 97 = .ok (.iaload, 1) := by decide +kernel
theorem dX11_lives_98 : decode cX11_lives 98 = .ok (.aload_n 0, 1) := by decide +kernel
theorem dX11_lives_99 : decode cX11_lives 99 = .ok (.iload_n 3, 1) := by decide +kernel
theorem dX11_lives_100 : decode cX11_lives 100 = .ok (.invokevirtual 469, 3) := by decide +kernel
theorem dX11_lives_103 : decode cX11_lives 103 = .ok (.ifCond .eq 7, 3) := by decide +kernel
theorem dX11_lives_106 : decode cX11_lives 106 = .ok (.iconst 0, 1) := by decide +kernel
theorem dX11_lives_107 : decode cX11_lives 107 = .ok (.goto 4, 3) := by decide +kernel
theorem dX11_lives_110 : decode cX11_lives 110 = .ok (.iconst 1, 1) := by decide +kernel
theorem dX11_lives_111 : decode cX11_lives 111 = .ok (.iadd, 1) := by decide +kernel
theorem dX11_lives_112 : decode cX11_lives 112 = .ok (.iastore, 1) := by decide +kernel
theorem dX11_lives_113 : decode cX11_lives 113 = .ok (.aload_n 0, 1) := by decide +kernel
theorem dX11_lives_114 : decode cX11_lives 114 = .ok (.getfield 7, 3) := by decide +kernel
theorem dX11_lives_117 : decode cX11_lives 117 = .ok (.iload_n 3, 1) := by decide +kernel
theorem dX11_lives_118 : decode cX11_lives 118 = .ok (.iaload, 1) := by decide +kernel
theorem dX11_lives_119 : decode cX11_lives 119 = .ok (.bipush 19, 2) := by decide +kernel
theorem dX11_lives_121 : decode cX11_lives 121 = .ok (.if_icmp .ne 19, 3) := by decide +kernel
theorem dX11_lives_124 : decode cX11_lives 124 = .ok (.aload_n 0, 1) := by decide +kernel
theorem dX11_lives_125 : decode cX11_lives 125 = .ok (.getfield 80, 3) := by decide +kernel
theorem dX11_lives_128 : decode cX11_lives 128 = .ok (.iload_n 2, 1) := by decide +kernel
theorem dX11_lives_129 : decode cX11_lives 129 = .ok (.aload_n 0, 1) := by decide +kernel
theorem dX11_lives_130 : decode cX11_lives 130 = .ok (.getfield 7, 3) := by decide +kernel
theorem dX11_lives_133 : decode cX11_lives 133 = .ok (.iload_n 3, 1) := by decide +kernel
theorem dX11_lives_134 : decode cX11_lives 134 = .ok (.iconst 1, 1) := by decide +kernel
theorem dX11_lives_135 : decode cX11_lives 135 = .ok (.iadd, 1) := by decide +kernel
theorem dX11_lives_136 : decode cX11_lives 136 = .ok (.iaload, 1) := by decide +kernel
theorem dX11_lives_137 : decode cX11_lives 137 = .ok (.iconst 1, 1) := by decide +kernel
theorem dX11_lives_138 : decode cX11_lives 138 = .ok (.isub, 1) := by decide +kernel
theorem dX11_lives_139 : decode cX11_lives 139 = .ok (.iastore, 1) := by decide +kernel
theorem dX11_lives_140 : decode cX11_lives 140 = .ok (.aload_n 0, 1) := by decide +kernel
theorem dX11_lives_141 : decode cX11_lives 141 = .ok (.aload_n 0, 1) := by decide +kernel
theorem dX11_lives_142 : decode cX11_lives 142 = .ok (.getfield 7, 3) := by decide +kernel
theorem dX11_lives_145 : decode cX11_lives 145 = .ok (.iload_n 3, 1) := by decide +kernel
theorem dX11_lives_146 : decode cX11_lives 146 = .ok (.iaload, 1) := by decide +kernel
theorem dX11_lives_147 : decode cX11_lives 147 = .ok (.sipush 1800, 3) := by decide +kernel
theorem dX11_lives_150 : decode cX11_lives 150 = .ok (.if_icmp .lt 24, 3) := by decide +kernel
theorem dX11_lives_153 : decode cX11_lives 153 = .ok (.aload_n 0, 1) := by decide +kernel
theorem dX11_lives_154 : decode cX11_lives 154 = .ok (.iload_n 3, 1) := by decide +kernel
theorem dX11_lives_155 : decode cX11_lives 155 = .ok (.invokevirtual 472, 3) := by decide +kernel
theorem dX11_lives_158 : decode cX11_lives 158 = .ok (.ifCond .ne 16, 3) := by decide +kernel
theorem dX11_lives_161 : decode cX11_lives 161 = .ok (.aload_n 0, 1) := by decide +kernel
theorem dX11_lives_162 : decode cX11_lives 162 = .ok (.getfield 7, 3) := by decide +kernel
theorem dX11_lives_165 : decode cX11_lives 165 = .ok (.iload_n 3, 1) := by decide +kernel
theorem dX11_lives_166 : decode cX11_lives 166 = .ok (.iconst 4, 1) := by decide +kernel
theorem dX11_lives_167 : decode cX11_lives 167 = .ok (.iadd, 1) := by decide +kernel
theorem dX11_lives_168 : decode cX11_lives 168 = .ok (.iaload, 1) := by decide +kernel
theorem dX11_lives_169 : decode cX11_lives 169 = .ok (.iconst 1, 1) := by decide +kernel
theorem dX11_lives_170 : decode cX11_lives 170 = .ok (.iadd, 1) := by decide +kernel
theorem dX11_lives_171 : decode cX11_lives 171 = .ok (.goto 6, 3) := by decide +kernel
theorem dX11_lives_174 : decode cX11_lives 174 = .ok (.iload_n 2, 1) := by decide +kernel
theorem dX11_lives_175 : decode cX11_lives 175 = .ok (.iconst 1, 1) := by decide +kernel
theorem dX11_lives_176 : decode cX11_lives 176 = .ok (.iadd, 1) := by decide +kernel
theorem dX11_lives_177 : decode cX11_lives 177 = .ok (.invokevirtual 475, 3) := by decide +kernel
theorem dX11_lives_180 : decode cX11_lives 180 = .ok (.istore_n 2, 1) := by decide +kernel
theorem dX11_lives_181 : decode cX11_lives 181 = .ok (.goto (-149), 3) := by decide +kernel
theorem dX11_lives_184 : decode cX11_lives 184 = .ok (.return_, 1) := by decide +kernel
theorem dX11_live_0 : decode cX11_live 0 = .ok (.iload_n 1, 1) := by decide +kernel
theorem dX11_live_1 : decode cX11_live 1 = .ok (.i2l, 1) := by decide +kernel
theorem dX11_live_2 : decode cX11_live 2 = .ok (.lconst 0, 1) := by decide +kernel
theorem dX11_live_3 : decode cX11_live 3 = .ok (.ldc2_w 478, 3) := by decide +kernel
theorem dX11_live_6 : decode cX11_live 6 = .ok (.invokestatic 299, 3) := by decide +kernel
theorem dX11_live_9 : decode cX11_live 9 = .ok (.ifCond .ne 9, 3) := by decide +kernel
theorem dX11_live_12 : decode cX11_live 12 = .ok (.aload_n 0, 1) := by decide +kernel
theorem dX11_live_13 : decode cX11_live 13 = .ok (.iconst 1, 1) := by decide +kernel
theorem dX11_live_14 : decode cX11_live 14 = .ok (.invokevirtual 99, 3) := by decide +kernel
theorem dX11_live_17 : decode cX11_live 17 = .ok (.ireturn, 1) := by decide +kernel
theorem dX11_live_18 : decode cX11_live 18 = .ok (.aload_n 0, 1) := by decide +kernel
theorem dX11_live_19 : decode cX11_live 19 = .ok (.getfield 7, 3) := by decide +kernel
theorem dX11_live_22 : decode cX11_live 22 = .ok (.bipush 7, 2) := by decide +kernel
theorem dX11_live_24 : decode cX11_live 24 = .ok (.iaload, 1) := by decide +kernel
theorem dX11_live_25 : decode cX11_live 25 = .ok (.iconst (-1), 1) := by decide +kernel
theorem dX11_live_26 : decode cX11_live 26 = .ok (.if_icmp .ne 10, 3) := by decide +kernel
theorem dX11_live_29 : decode cX11_live 29 = .ok (.aload_n 0, 1) := by decide +kernel
theorem dX11_live_30 : decode cX11_live 30 = .ok (.bipush 6, 2) := by decide +kernel
theorem dX11_live_32 : decode cX11_live 32 = .ok (.invokevirtual 99, 3) := by decide +kernel
theorem dX11_live_35 : decode cX11_live 35 = .ok (.ireturn, 1) := by decide +kernel
theorem dX11_live_36 : decode cX11_live 36 = .ok (.aload_n 0, 1) := by decide +kernel
theorem dX11_live_37 : decode cX11_live 37 = .ok (.iload_n 1, 1) := by decide +kernel
theorem dX11_live_38 : decode cX11_live 38 = .ok (.invokevirtual 480, 3) := by decide +kernel
theorem dX11_live_41 : decode cX11_live 41 = .ok (.iconst 0, 1) := by decide +kernel
theorem dX11_live_42 : decode cX11_live 42 = .ok (.istore_n 2, 1) := by decide +kernel
theorem dX11_live_43 : decode cX11_live 43 = .ok (.iload_n 2, 1) := by decide +kernel
theorem dX11_live_44 : decode cX11_live 44 = .ok (.iconst 5, 1) := by decide +kernel
theorem dX11_live_45 : decode cX11_live 45 = .ok (.if_icmp .ge 21, 3) := by decide +kernel
theorem dX11_live_48 : decode cX11_live 48 = .ok (.aload_n 0, 1) := by decide +kernel
theorem dX11_live_49 : decode cX11_live 49 = .ok (.getfield 86, 3) := by decide +kernel
theorem dX11_live_52 : decode cX11_live 52 = .ok (.iload_n 2, 1) := by decide +kernel
theorem dX11_live_53 : decode cX11_live 53 = .ok (.aload_n 0, 1) := by decide +kernel
theorem dX11_live_54 : decode cX11_live 54 = .ok (.getfield 83, 3) := by decide +kernel
theorem dX11_live_57 : decode cX11_live 57 = .ok (.iload_n 2, 1) := by decide +kernel
theorem dX11_live_58 : decode cX11_live 58 = .ok (.iaload, 1) := by decide +kernel
theorem dX11_live_59 : decode cX11_live 59 = .ok (.iastore, 1) := by decide +kernel
theorem dX11_live_60 : decode cX11_live 60 = .ok (.iinc 2 1, 3) := by decide +kernel
theorem dX11_live_63 : decode cX11_live 63 = .ok (.goto (-20), 3) := by decide +kernel
theorem dX11_live_66 : decode cX11_live 66 = .ok (.aload_n 0, 1) := by decide +kernel
theorem dX11_live_67 : decode cX11_live 67 = .ok (.iconst 1, 1) := by decide +kernel
theorem dX11_live_68 : decode cX11_live 68 = .ok (.putfield 483, 3) := by decide +kernel
theorem dX11_live_71 : decode cX11_live 71 = .ok (.aload_n 0, 1) := by decide +kernel
theorem dX11_live_72 : decode cX11_live 72 = .ok (.aload_n 0, 1) := by decide +kernel
theorem dX11_live_73 : decode cX11_live 73 = .ok (.getfield 466, 3) := by decide +kernel
theorem dX11_live_76 : decode cX11_live 76 = .ok (.invokevirtual 103, 3) := by decide +kernel
theorem dX11_live_79 : decode cX11_live 79 = .ok (.ireturn, 1) := by decide +kernel
theorem dX11_lived_0 : decode cX11_lived 0 = .ok (.iload_n 1, 1) := by decide +kernel
theorem dX11_lived_1 : decode cX11_lived 1 = .ok (.ifCond .lt 8, 3) := by decide +kernel
theorem dX11_lived_4 : decode cX11_lived 4 = .ok (.iload_n 1, 1) := by decide +kernel
theorem dX11_lived_5 : decode cX11_lived 5 = .ok (.iconst 4, 1) := by decide +kernel
theorem dX11_lived_6 : decode cX11_lived 6 = .ok (.if_icmp .le 11, 3) := by decide +kernel
theorem dX11_lived_9 : decode cX11_lived 9 = .ok (.aload_n 0, 1) := by decide +kernel
theorem dX11_lived_10 : decode cX11_lived 10 = .ok (.iconst 1, 1) := by decide +kernel
theorem dX11_lived_11 : decode cX11_lived 11 = .ok (.invokevirtual 99, 3) := by decide +kernel
theorem dX11_lived_14 : decode cX11_lived 14 = .ok (.goto 29, 3) := by decide +kernel
theorem dX11_lived_17 : decode cX11_lived 17 = .ok (.aload_n 0, 1) := by decide +kernel
theorem dX11_lived_18 : decode cX11_lived 18 = .ok (.getfield 483, 3) := by decide +kernel
theorem dX11_lived_21 : decode cX11_lived 21 = .ok (.ifCond .eq 16, 3) := by decide +kernel
theorem dX11_lived_24 : decode cX11_lived 24 = .ok (.aload_n 0, 1) := by decide +kernel
theorem dX11_lived_25 : decode cX11_lived 25 = .ok (.aload_n 0, 1) := by decide +kernel
theorem dX11_lived_26 : decode cX11_lived 26 = .ok (.getfield 86, 3) := by decide +kernel
theorem dX11_lived_29 : decode cX11_lived 29 = .ok (.iload_n 1, 1) := by decide +kernel
theorem dX11_lived_30 : decode cX11_lived 30 = .ok (.iaload, 1) := by decide +kernel
theorem dX11_lived_31 : decode cX11_lived 31 = .ok (.invokevirtual 103, 3) := by decide +kernel
theorem dX11_lived_34 : decode cX11_lived 34 = .ok (.goto 9, 3) := by decide +kernel
theorem dX11_lived_37 : decode cX11_lived 37 = .ok (.aload_n 0, 1) := by decide +kernel
theorem dX11_lived_38 : decode cX11_lived 38 = .ok (.bipush 6, 2) := by decide +kernel
theorem dX11_lived_40 : decode cX11_lived 40 = .ok (.invokevirtual 99, 3) := by decide +kernel
theorem dX11_lived_43 : decode cX11_lived 43 = .ok (.ireturn, 1) := by decide +kernel
theorem dX11_mean_0 : decode cX11_mean 0 = .ok (.iload_n 1, 1) := by decide +kernel
theorem dX11_mean_1 : decode cX11_mean 1 = .ok (.i2l, 1) := by decide +kernel
theorem dX11_mean_2 : decode cX11_mean 2 = .ok (.lconst 0, 1) := by decide +kernel
theorem dX11_mean_3 : decode cX11_mean 3 = .ok (.ldc2_w 478, 3) := by decide +kernel
theorem dX11_mean_6 : decode cX11_mean 6 = .ok (.invokestatic 299, 3) := by decide +kernel
theorem dX11_mean_9 : decode cX11_mean 9 = .ok (.ifCond .eq 26, 3) := by decide +kernel
theorem dX11_mean_12 : decode cX11_mean 12 = .ok (.iload_n 2, 1) := by decide +kernel
theorem dX11_mean_13 : decode cX11_mean 13 = .ok (.i2l, 1) := by decide +kernel
theorem dX11_mean_14 : decode cX11_mean 14 = .ok (.lconst 1, 1) := by decide +kernel
theorem dX11_mean_15 : decode cX11_mean 15 = .ok (.ldc2_w 359, 3) := by decide +kernel
theorem dX11_mean_18 : decode cX11_mean 18 = .ok (.invokestatic 299, 3) := by decide +kernel
theorem dX11_mean_21 : decode cX11_mean 21 = .ok (.ifCond .eq 14, 3) := by decide +kernel
theorem dX11_mean_24 : decode cX11_mean 24 = .ok (.iload_n 1, 1) := by decide +kernel
theorem dX11_mean_25 : decode cX11_mean 25 = .ok (.iload_n 2, 1) := by decide +kernel
theorem dX11_mean_26 : decode cX11_mean 26 = .ok (.iadd, 1) := by decide +kernel
theorem dX11_mean_27 : decode cX11_mean 27 = .ok (.iconst 1, 1) := by decide +kernel
theorem dX11_mean_28 : decode cX11_mean 28 = .ok (.isub, 1) := by decide +kernel
theorem dX11_mean_29 : decode cX11_mean 29 = .ok (.sipush 9999, 3) := by decide +kernel
theorem dX11_mean_32 : decode cX11_mean 32 = .ok (.if_icmp .le 9, 3) := by decide +kernel
theorem dX11_mean_35 : decode cX11_mean 35 = .ok (.aload_n 0, 1) := by decide +kernel
theorem dX11_mean_36 : decode cX11_mean 36 = .ok (.iconst 1, 1) := by decide +kernel
theorem dX11_mean_37 : decode cX11_mean 37 = .ok (.invokevirtual 106, 3) := by decide +kernel
theorem dX11_mean_40 : decode cX11_mean 40 = .ok (.ireturn, 1) := by decide +kernel
theorem dX11_mean_41 : decode cX11_mean 41 = .ok (.aload_n 0, 1) := by decide +kernel
theorem dX11_mean_42 : decode cX11_mean 42 = .ok (.getfield 7, 3) := by decide +kernel
theorem dX11_mean_45 : decode cX11_mean 45 = .ok (.bipush 7, 2) := by decide +kernel
theorem dX11_mean_47 : decode cX11_mean 47 = .ok (.iaload, 1) := by decide +kernel
theorem dX11_mean_48 : decode cX11_mean 48 = .ok (.iconst (-1), 1) := by decide +kernel
theorem dX11_mean_49 : decode cX11_mean 49 = .ok (.if_icmp .ne 10, 3) := by decide +kernel
theorem dX11_mean_52 : decode cX11_mean 52 = .ok (.aload_n 0, 1) := by decide +kernel
theorem dX11_mean_53 : decode cX11_mean 53 = .ok (.bipush 6, 2) := by decide +kernel
theorem dX11_mean_55 : decode cX11_mean 55 = .ok (.invokevirtual 106, 3) := by decide +kernel
theorem dX11_mean_58 : decode cX11_mean 58 = .ok (.ireturn, 1) := by decide +kernel
theorem dX11_mean_59 : decode cX11_mean 59 = .ok (.iconst 0, 1) := by decide +kernel
theorem dX11_mean_60 : decode cX11_mean 60 = .ok (.istore_n 3, 1) := by decide +kernel
theorem dX11_mean_61 : decode cX11_mean 61 = .ok (.iload_n 3, 1) := by decide +kernel
theorem dX11_mean_62 : decode cX11_mean 62 = .ok (.bipush 60, 2) := by decide +kernel
theorem dX11_mean_64 : decode cX11_mean 64 = .ok (.if_icmp .ge 25, 3) := by decide +kernel
theorem dX11_mean_67 : decode cX11_mean 67 = .ok (.aload_n 0, 1) := by decide +kernel
theorem dX11_mean_68 : decode cX11_mean 68 = .ok (.getfield 7, 3) := by decide +kernel
theorem dX11_mean_71 : decode cX11_mean 71 = .ok (.sipush 2140, 3) := by decide +kernel
theorem dX11_mean_74 : decode cX11_mean 74 = .ok (.iload_n 3, 1) := by decide +kernel
theorem dX11_mean_75 : decode cX11_mean 75 = .ok (.iadd, 1) := by decide +kernel
theorem dX11_mean_76 : decode cX11_mean 76 = .ok (.aload_n 0, 1) := by decide +kernel
theorem dX11_mean_77 : decode cX11_mean 77 = .ok (.getfield 7, 3) := by decide +kernel
theorem dX11_mean_80 : decode cX11_mean 80 = .ok (.iload_n 3, 1) := by decide +kernel
theorem dX11_mean_81 : decode cX11_mean 81 = .ok (.iaload, 1) := by decide +kernel
theorem dX11_mean_82 : decode cX11_mean 82 = .ok (.iastore, 1) := by decide +kernel
theorem dX11_mean_83 : decode cX11_mean 83 = .ok (.iinc 3 1, 3) := by decide +kernel
theorem dX11_mean_86 : decode cX11_mean 86 = .ok (.goto (-25), 3) := by decide +kernel
theorem dX11_mean_89 : decode cX11_mean 89 = .ok (.lconst 0, 1) := by decide +kernel
theorem dX11_mean_90 : decode cX11_mean 90 = .ok (.lstore_n 3, 1) := by decide +kernel
theorem dX11_mean_91 : decode cX11_mean 91 = .ok (.iconst 0, 1) := by decide +kernel
theorem dX11_mean_92 : decode cX11_mean 92 = .ok (.istore 5, 2) := by decide +kernel
theorem dX11_mean_94 : decode cX11_mean 94 = .ok (.iload 5, 2) := by decide +kernel
theorem dX11_mean_96 : decode cX11_mean 96 = .ok (.iload_n 2, 1) := by decide +kernel
theorem dX11_mean_97 : decode cX11_mean 97 = .ok (.if_icmp .ge 60, 3) := by decide +kernel
theorem dX11_mean_100 : decode cX11_mean 100 = .ok (.aload_n 0, 1) := by decide +kernel
theorem dX11_mean_101 : decode cX11_mean 101 = .ok (.iload_n 1, 1) := by decide +kernel
theorem dX11_mean_102 : decode cX11_mean 102 = .ok (.iload 5, 2) := by decide +kernel
theorem dX11_mean_104 : decode cX11_mean 104 = .ok (.iadd, 1) := by decide +kernel
theorem dX11_mean_105 : decode cX11_mean 105 = .ok (.invokevirtual 480, 3) := by decide +kernel
theorem dX11_mean_108 : decode cX11_mean 108 = .ok (.lload_n 3, 1) := by decide +kernel
theorem dX11_mean_109 : decode cX11_mean 109 = .ok (.aload_n 0, 1) := by decide +kernel
theorem dX11_mean_110 : decode cX11_mean 110 = .ok (.iconst 2, 1) := by decide +kernel
theorem dX11_mean_111 : decode cX11_mean 111 = .ok (.invokevirtual 318, 3) := by decide +kernel
theorem dX11_mean_114 : decode cX11_mean 114 = .ok (.i2l, 1) := by decide +kernel
theorem dX11_mean_115 : decode cX11_mean 115 = .ok (.ladd, 1) := by decide +kernel
theorem dX11_mean_116 : decode cX11_mean 116 = .ok (.lstore_n 3, 1) := by decide +kernel
theorem dX11_mean_117 : decode cX11_mean 117 = .ok (.iconst 0, 1) := by decide +kernel
theorem dX11_mean_118 : decode cX11_mean 118 = .ok (.istore 6, 2) := by decide +kernel
theorem dX11_mean_120 : decode cX11_mean 120 = .ok (.iload 6, 2) := by decide +kernel
theorem dX11_mean_122 : decode cX11_mean 122 = .ok (.bipush 60, 2) := by decide +kernel
theorem dX11_mean_124 : decode cX11_mean 124 = .ok (.if_icmp .ge 27, 3) := by decide +kernel
theorem dX11_mean_127 : decode cX11_mean 127 = .ok (.aload_n 0, 1) := by decide +kernel
theorem dX11_mean_128 : decode cX11_mean 128 = .ok (.getfield 7, 3) := by decide +kernel
theorem dX11_mean_131 : decode cX11_mean 131 = .ok (.iload 6, 2) := by decide +kernel
theorem dX11_mean_133 : decode cX11_mean 133 = .ok (.aload_n 0, 1) := by decide +kernel
theorem dX11_mean_134 : decode cX11_mean 134 = .ok (.getfield 7, 3) := by decide +kernel
theorem dX11_mean_137 : decode cX11_mean 137 = .ok (.sipush 2140, 3) := by decide +kernel
theorem dX11_mean_140 : decode cX11_mean 140 = .ok (.iload 6, 2) := by decide +kernel
theorem dX11_mean_142 : decode cX11_mean 142 = .ok (.iadd, 1) := by decide +kernel
theorem dX11_mean_143 : decode cX11_mean 143 = .ok (.iaload, 1) := by decide +kernel
theorem dX11_mean_144 : decode cX11_mean 144 = .ok (.iastore, 1) := by decide +kernel
theorem dX11_mean_145 : decode cX11_mean 145 = .ok (.iinc 6 1, 3) := by decide +kernel
theorem dX11_mean_148 : decode cX11_mean 148 = .ok (.goto (-28), 3) := by decide +kernel
theorem dX11_mean_151 : decode cX11_mean 151 = .ok (.iinc 5 1, 3) := by decide +kernel
theorem dX11_mean_154 : decode cX11_mean 154 = .ok (.goto (-60), 3) := by decide +kernel
theorem dX11_mean_157 : decode cX11_mean 157 = .ok (.aload_n 0, 1) := by decide +kernel
theorem dX11_mean_158 : decode cX11_mean 158 = .ok (.lload_n 3, 1) := by decide +kernel
theorem dX11_mean_159 : decode cX11_mean 159 = .ok (.iload_n 2, 1) := by decide +kernel
theorem dX11_mean_160 : decode cX11_mean 160 = .ok (.i2l, 1) := by decide +kernel
theorem dX11_mean_161 : decode cX11_mean 161 = .ok (.invokevirtual 417, 3) := by decide +kernel
theorem dX11_mean_164 : decode cX11_mean 164 = .ok (.ireturn, 1) := by decide +kernel
theorem dX11_copies_0 : decode cX11_copies 0 = .ok (.iconst 0, 1) := by decide +kernel
theorem dX11_copies_1 : decode cX11_copies 1 = .ok (.istore_n 3, 1) := by decide +kernel
theorem dX11_copies_2 : decode cX11_copies 2 = .ok (.iload_n 3, 1) := by decide +kernel
theorem dX11_copies_3 : decode cX11_copies 3 = .ok (.sipush 428, 3) := by decide +kernel
theorem dX11_copies_6 : decode cX11_copies 6 = .ok (.if_icmp .ge 33, 3) := by decide +kernel
theorem dX11_copies_9 : decode cX11_copies 9 = .ok (.aload_n 0, 1) := by decide +kernel
theorem dX11_copies_10 : decode cX11_copies 10 = .ok (.getfield 7, 3) := by decide +kernel
theorem dX11_copies_13 : decode cX11_copies 13 = .ok (.sipush 428, 3) := by decide +kernel
theorem dX11_copies_16 : decode cX11_copies 16 = .ok (.iload_n 2, 1) := by decide +kernel
theorem dX11_copies_17 : decode cX11_copies 17 = .ok (.imul, 1) := by decide +kernel
theorem dX11_copies_18 : decode cX11_copies 18 = .ok (.iload_n 3, 1) := by decide +kernel
theorem dX11_copies_19 : decode cX11_copies 19 = .ok (.iadd, 1) := by decide +kernel
theorem dX11_copies_20 : decode cX11_copies 20 = .ok (.aload_n 0, 1) := by decide +kernel
theorem dX11_copies_21 : decode cX11_copies 21 = .ok (.getfield 7, 3) := by decide +kernel
theorem dX11_copies_24 : decode cX11_copies 24 = .ok (.sipush 428, 3) := by decide +kernel
theorem dX11_copies_27 : decode cX11_copies 27 = .ok (.iload_n 1, 1) := by decide +kernel
theorem dX11_copies_28 : decode cX11_copies 28 = .ok (.imul, 1) := by decide +kernel
theorem dX11_copies_29 : decode cX11_copies 29 = .ok (.iload_n 3, 1) := by decide +kernel
theorem dX11_copies_30 : decode cX11_copies 30 = .ok (.iadd, 1) := by decide +kernel
theorem dX11_copies_31 : decode cX11_copies 31 = .ok (.iaload, 1) := by decide +kernel
theorem dX11_copies_32 : decode cX11_copies 32 = .ok (.iastore, 1) := by decide +kernel
theorem dX11_copies_33 : decode cX11_copies 33 = .ok (.iinc 3 1, 3) := by decide +kernel
theorem dX11_copies_36 : decode cX11_copies 36 = .ok (.goto (-34), 3) := by decide +kernel
theorem dX11_copies_39 : decode cX11_copies 39 = .ok (.iconst 0, 1) := by decide +kernel
theorem dX11_copies_40 : decode cX11_copies 40 = .ok (.istore_n 3, 1) := by decide +kernel
theorem dX11_copies_41 : decode cX11_copies 41 = .ok (.iload_n 3, 1) := by decide +kernel
theorem dX11_copies_42 : decode cX11_copies 42 = .ok (.bipush 19, 2) := by decide +kernel
theorem dX11_copies_44 : decode cX11_copies 44 = .ok (.if_icmp .ge 31, 3) := by decide +kernel
theorem dX11_copies_47 : decode cX11_copies 47 = .ok (.aload_n 0, 1) := by decide +kernel
theorem dX11_copies_48 : decode cX11_copies 48 = .ok (.getfield 13, 3) := by decide +kernel
theorem dX11_copies_51 : decode cX11_copies 51 = .ok (.bipush 19, 2) := by decide +kernel
theorem dX11_copies_53 : decode cX11_copies 53 = .ok (.iload_n 2, 1) := by decide +kernel
theorem dX11_copies_54 : decode cX11_copies 54 = .ok (.imul, 1) := by decide +kernel
theorem dX11_copies_55 : decode cX11_copies 55 = .ok (.iload_n 3, 1) := by decide +kernel
theorem dX11_copies_56 : decode cX11_copies 56 = .ok (.iadd, 1) := by decide +kernel
theorem dX11_copies_57 : decode cX11_copies 57 = .ok (.aload_n 0, 1) := by decide +kernel
theorem dX11_copies_58 : decode cX11_copies 58 = .ok (.getfield 13, 3) := by decide +kernel
theorem dX11_copies_61 : decode cX11_copies 61 = .ok (.bipush 19, 2) := by decide +kernel
theorem dX11_copies_63 : decode cX11_copies 63 = .ok (.iload_n 1, 1) := by decide +kernel
theorem dX11_copies_64 : decode cX11_copies 64 = .ok (.imul, 1) := by decide +kernel
theorem dX11_copies_65 : decode cX11_copies 65 = .ok (.iload_n 3, 1) := by decide +kernel
theorem dX11_copies_66 : decode cX11_copies 66 = .ok (.iadd, 1) := by decide +kernel
theorem dX11_copies_67 : decode cX11_copies 67 = .ok (.laload, 1) := by decide +kernel
theorem dX11_copies_68 : decode cX11_copies 68 = .ok (.lastore, 1) := by decide +kernel
theorem dX11_copies_69 : decode cX11_copies 69 = .ok (.iinc 3 1, 3) := by decide +kernel
theorem dX11_copies_72 : decode cX11_copies 72 = .ok (.goto (-31), 3) := by decide +kernel
theorem dX11_copies_75 : decode cX11_copies 75 = .ok (.return_, 1) := by decide +kernel
theorem dX11_mark_0 : decode cX11_mark 0 = .ok (.aload_n 0, 1) := by decide +kernel
theorem dX11_mark_1 : decode cX11_mark 1 = .ok (.getfield 487, 3) := by decide +kernel
theorem dX11_mark_4 : decode cX11_mark 4 = .ok (.iconst 3, 1) := by decide +kernel
theorem dX11_mark_5 : decode cX11_mark 5 = .ok (.if_icmp .ne 9, 3) := by decide +kernel
theorem dX11_mark_8 : decode cX11_mark 8 = .ok (.aload_n 0, 1) := by decide +kernel
theorem dX11_mark_9 : decode cX11_mark 9 = .ok (.iconst 4, 1) := by decide +kernel
theorem dX11_mark_10 : decode cX11_mark 10 = .ok (.invokevirtual 99, 3) := by decide +kernel
theorem dX11_mark_13 : decode cX11_mark 13 = .ok (.ireturn, 1) := by decide +kernel
theorem dX11_mark_14 : decode cX11_mark 14 = .ok (.aload_n 0, 1) := by decide +kernel
theorem dX11_mark_15 : decode cX11_mark 15 = .ok (.dup, 1) := by decide +kernel
theorem dX11_mark_16 : decode cX11_mark 16 = .ok (.getfield 487, 3) := by decide +kernel
theorem dX11_mark_19 : decode cX11_mark 19 = .ok (.iconst 1, 1) := by decide +kernel
theorem dX11_mark_20 : decode cX11_mark 20 = .ok (.iadd, 1) := by decide +kernel
theorem dX11_mark_21 : decode cX11_mark 21 = .ok (.putfield 487, 3) := by decide +kernel
theorem dX11_mark_24 : decode cX11_mark 24 = .ok (.aload_n 0, 1) := by decide +kernel
theorem dX11_mark_25 : decode cX11_mark 25 = .ok (.iconst 0, 1) := by decide +kernel
theorem dX11_mark_26 : decode cX11_mark 26 = .ok (.aload_n 0, 1) := by decide +kernel
theorem dX11_mark_27 : decode cX11_mark 27 = .ok (.getfield 487, 3) := by decide +kernel
theorem dX11_mark_30 : decode cX11_mark 30 = .ok (.invokevirtual 490, 3) := by decide +kernel
theorem dX11_mark_33 : decode cX11_mark 33 = .ok (.aload_n 0, 1) := by decide +kernel
theorem dX11_mark_34 : decode cX11_mark 34 = .ok (.aload_n 0, 1) := by decide +kernel
theorem dX11_mark_35 : decode cX11_mark 35 = .ok (.getfield 487, 3) := by decide +kernel
theorem dX11_mark_38 : decode cX11_mark 38 = .ok (.invokevirtual 103, 3) := by decide +kernel
theorem dX11_mark_41 : decode cX11_mark 41 = .ok (.ireturn, 1) := by decide +kernel
theorem dX11_undo_0 : decode cX11_undo 0 = .ok (.aload_n 0, 1) := by decide +kernel
theorem dX11_undo_1 : decode cX11_undo 1 = .ok (.getfield 487, 3) := by decide +kernel
theorem dX11_undo_4 : decode cX11_undo 4 = .ok (.ifCond .ne 10, 3) := by decide +kernel
theorem dX11_undo_7 : decode cX11_undo 7 = .ok (.aload_n 0, 1) := by decide +kernel
theorem dX11_undo_8 : decode cX11_undo 8 = .ok (.bipush 6, 2) := by decide +kernel
theorem dX11_undo_10 : decode cX11_undo 10 = .ok (.invokevirtual 99, 3) := by decide +kernel
theorem dX11_undo_13 : decode cX11_undo 13 = .ok (.ireturn, 1) := by decide +kernel
theorem dX11_undo_14 : decode cX11_undo 14 = .ok (.aload_n 0, 1) := by decide +kernel
theorem dX11_undo_15 : decode cX11_undo 15 = .ok (.aload_n 0, 1) := by decide +kernel
theorem dX11_undo_16 : decode cX11_undo 16 = .ok (.getfield 487, 3) := by decide +kernel
theorem dX11_undo_19 : decode cX11_undo 19 = .ok (.iconst 0, 1) := by decide +kernel
theorem dX11_undo_20 : decode cX11_undo 20 = .ok (.invokevirtual 490, 3) := by decide +kernel
theorem dX11_undo_23 : decode cX11_undo 23 = .ok (.aload_n 0, 1) := by decide +kernel
theorem dX11_undo_24 : decode cX11_undo 24 = .ok (.dup, 1) := by decide +kernel
theorem dX11_undo_25 : decode cX11_undo 25 = .ok (.getfield 487, 3) := by decide +kernel
theorem dX11_undo_28 : decode cX11_undo 28 = .ok (.iconst 1, 1) := by decide +kernel
theorem dX11_undo_29 : decode cX11_undo 29 = .ok (.isub, 1) := by decide +kernel
theorem dX11_undo_30 : decode cX11_undo 30 = .ok (.putfield 487, 3) := by decide +kernel
theorem dX11_undo_33 : decode cX11_undo 33 = .ok (.aload_n 0, 1) := by decide +kernel
theorem dX11_undo_34 : decode cX11_undo 34 = .ok (.aload_n 0, 1) := by decide +kernel
theorem dX11_undo_35 : decode cX11_undo 35 = .ok (.getfield 487, 3) := by decide +kernel
theorem dX11_undo_38 : decode cX11_undo 38 = .ok (.invokevirtual 103, 3) := by decide +kernel
theorem dX11_undo_41 : decode cX11_undo 41 = .ok (.ireturn, 1) := by decide +kernel
