theorem dX0_init_0 : decode cX0_init 0 = .ok (.aload_n 0, 1) := by decide +kernel
theorem dX0_init_1 : decode cX0_init 1 = .ok (.invokespecial 3, 3) := by decide +kernel
theorem dX0_init_4 : decode cX0_init 4 = .ok (.aload_n 0, 1) := by decide +kernel
theorem dX0_init_5 : decode cX0_init 5 = .ok (.bipush 6, 2) := by decide +kernel
theorem dX0_init_7 : decode cX0_init 7 = .ok (.newarray .int, 2) := by decide +kernel
theorem dX0_init_9 : decode cX0_init 9 = .ok (.putfield 9, 3) := by decide +kernel
theorem dX0_init_12 : decode cX0_init 12 = .ok (.aload_n 0, 1) := by decide +kernel
theorem dX0_init_13 : decode cX0_init 13 = .ok (.bipush 6, 2) := by decide +kernel
theorem dX0_init_15 : decode cX0_init 15 = .ok (.newarray .int, 2) := by decide +kernel
theorem dX0_init_17 : decode cX0_init 17 = .ok (.putfield 15, 3) := by decide +kernel
theorem dX0_init_20 : decode cX0_init 20 = .ok (.aload_n 0, 1) := by decide +kernel
theorem dX0_init_21 : decode cX0_init 21 = .ok (.bipush 8, 2) := by decide +kernel
theorem dX0_init_23 : decode cX0_init 23 = .ok (.newarray .int, 2) := by decide +kernel
theorem dX0_init_25 : decode cX0_init 25 = .ok (.putfield 18, 3) := by decide +kernel
theorem dX0_init_28 : decode cX0_init 28 = .ok (.aload_n 0, 1) := by decide +kernel
theorem dX0_init_29 : decode cX0_init 29 = .ok (.bipush 7, 2) := by decide +kernel
theorem dX0_init_31 : decode cX0_init 31 = .ok (.newarray .int, 2) := by decide +kernel
theorem dX0_init_33 : decode cX0_init 33 = .ok (.putfield 21, 3) := by decide +kernel
theorem dX0_init_36 : decode cX0_init 36 = .ok (.aload_n 0, 1) := by decide +kernel
theorem dX0_init_37 : decode cX0_init 37 = .ok (.bipush 7, 2) := by decide +kernel
theorem dX0_init_39 : decode cX0_init 39 = .ok (.newarray .int, 2) := by decide +kernel
theorem dX0_init_41 : decode cX0_init 41 = .ok (.putfield 24, 3) := by decide +kernel
theorem dX0_init_44 : decode cX0_init 44 = .ok (.aload_n 0, 1) := by decide +kernel
theorem dX0_init_45 : decode cX0_init 45 = .ok (.bipush 7, 2) := by decide +kernel
theorem dX0_init_47 : decode cX0_init 47 = .ok (.newarray .int, 2) := by decide +kernel
theorem dX0_init_49 : decode cX0_init 49 = .ok (.putfield 27, 3) := by decide +kernel
theorem dX0_init_52 : decode cX0_init 52 = .ok (.aload_n 0, 1) := by decide +kernel
theorem dX0_init_53 : decode cX0_init 53 = .ok (.bipush 7, 2) := by decide +kernel
theorem dX0_init_55 : decode cX0_init 55 = .ok (.newarray .long, 2) := by decide +kernel
theorem dX0_init_57 : decode cX0_init 57 = .ok (.putfield 30, 3) := by decide +kernel
theorem dX0_init_60 : decode cX0_init 60 = .ok (.aload_n 0, 1) := by decide +kernel
theorem dX0_init_61 : decode cX0_init 61 = .ok (.iconst 4, 1) := by decide +kernel
theorem dX0_init_62 : decode cX0_init 62 = .ok (.newarray .int, 2) := by decide +kernel
theorem dX0_init_64 : decode cX0_init 64 = .ok (.putfield 34, 3) := by decide +kernel
theorem dX0_init_67 : decode cX0_init 67 = .ok (.aload_n 0, 1) := by decide +kernel
theorem dX0_init_68 : decode cX0_init 68 = .ok (.iconst 4, 1) := by decide +kernel
theorem dX0_init_69 : decode cX0_init 69 = .ok (.newarray .int, 2) := by decide +kernel
theorem dX0_init_71 : decode cX0_init 71 = .ok (.putfield 37, 3) := by decide +kernel
theorem dX0_init_74 : decode cX0_init 74 = .ok (.aload_n 0, 1) := by decide +kernel
theorem dX0_init_75 : decode cX0_init 75 = .ok (.iconst 4, 1) := by decide +kernel
theorem dX0_init_76 : decode cX0_init 76 = .ok (.newarray .long, 2) := by decide +kernel
theorem dX0_init_78 : decode cX0_init 78 = .ok (.putfield 40, 3) := by decide +kernel
theorem dX0_init_81 : decode cX0_init 81 = .ok (.aload_n 0, 1) := by decide +kernel
theorem dX0_init_82 : decode cX0_init 82 = .ok (.bipush 8, 2) := by decide +kernel
theorem dX0_init_84 : decode cX0_init 84 = .ok (.putfield 43, 3) := by decide +kernel
theorem dX0_init_87 : decode cX0_init 87 = .ok (.return_, 1) := by decide +kernel
theorem dX0_clear_0 : decode cX0_clear 0 = .ok (.aload_n 0, 1) := by decide +kernel
theorem dX0_clear_1 : decode cX0_clear 1 = .ok (.iconst 0, 1) := by decide +kernel
theorem dX0_clear_2 : decode cX0_clear 2 = .ok (.putfield 47, 3) := by decide +kernel
theorem dX0_clear_5 : decode cX0_clear 5 = .ok (.aload_n 0, 1) := by decide +kernel
theorem dX0_clear_6 : decode cX0_clear 6 = .ok (.iconst 0, 1) := by decide +kernel
theorem dX0_clear_7 : decode cX0_clear 7 = .ok (.putfield 50, 3) := by decide +kernel
theorem dX0_clear_10 : decode cX0_clear 10 = .ok (.aload_n 0, 1) := by decide +kernel
theorem dX0_clear_11 : decode cX0_clear 11 = .ok (.iconst 0, 1) := by decide +kernel
theorem dX0_clear_12 : decode cX0_clear 12 = .ok (.putfield 53, 3) := by decide +kernel
theorem dX0_clear_15 : decode cX0_clear 15 = .ok (.aload_n 0, 1) := by decide +kernel
theorem dX0_clear_16 : decode cX0_clear 16 = .ok (.iconst 0, 1) := by decide +kernel
theorem dX0_clear_17 : decode cX0_clear 17 = .ok (.putfield 56, 3) := by decide +kernel
theorem dX0_clear_20 : decode cX0_clear 20 = .ok (.aload_n 0, 1) := by decide +kernel
theorem dX0_clear_21 : decode cX0_clear 21 = .ok (.bipush 8, 2) := by decide +kernel
theorem dX0_clear_23 : decode cX0_clear 23 = .ok (.putfield 43, 3) := by decide +kernel
theorem dX0_clear_26 : decode cX0_clear 26 = .ok (.aload_n 0, 1) := by decide +kernel
theorem dX0_clear_27 : decode cX0_clear 27 = .ok (.iconst 0, 1) := by decide +kernel
theorem dX0_clear_28 : decode cX0_clear 28 = .ok (.putfield 59, 3) := by decide +kernel
theorem dX0_clear_31 : decode cX0_clear 31 = .ok (.aload_n 0, 1) := by decide +kernel
theorem dX0_clear_32 : decode cX0_clear 32 = .ok (.iconst 0, 1) := by decide +kernel
theorem dX0_clear_33 : decode cX0_clear 33 = .ok (.putfield 62, 3) := by decide +kernel
theorem dX0_clear_36 : decode cX0_clear 36 = .ok (.return_, 1) := by decide +kernel
theorem dX0_copyFrom_0 : decode cX0_copyFrom 0 = .ok (.aload_n 1, 1) := by decide +kernel
theorem dX0_copyFrom_1 : decode cX0_copyFrom 1 = .ok (.getfield 9, 3) := by decide +kernel
theorem dX0_copyFrom_4 : decode cX0_copyFrom 4 = .ok (.iconst 0, 1) := by decide +kernel
theorem dX0_copyFrom_5 : decode cX0_copyFrom 5 = .ok (.aload_n 0, 1) := by decide +kernel
theorem dX0_copyFrom_6 : decode cX0_copyFrom 6 = .ok (.getfield 9, 3) := by decide +kernel
theorem dX0_copyFrom_9 : decode cX0_copyFrom 9 = .ok (.iconst 0, 1) := by decide +kernel
theorem dX0_copyFrom_10 : decode cX0_copyFrom 10 = .ok (.bipush 6, 2) := by decide +kernel
theorem dX0_copyFrom_12 : decode cX0_copyFrom 12 = .ok (.invokestatic 65, 3) := by decide +kernel
theorem dX0_copyFrom_15 : decode cX0_copyFrom 15 = .ok (.aload_n 1, 1) := by decide +kernel
theorem dX0_copyFrom_16 : decode cX0_copyFrom 16 = .ok (.getfield 15, 3) := by decide +kernel
theorem dX0_copyFrom_19 : decode cX0_copyFrom 19 = .ok (.iconst 0, 1) := by decide +kernel
theorem dX0_copyFrom_20 : decode cX0_copyFrom 20 = .ok (.aload_n 0, 1) := by decide +kernel
theorem dX0_copyFrom_21 : decode cX0_copyFrom 21 = .ok (.getfield 15, 3) := by decide +kernel
theorem dX0_copyFrom_24 : decode cX0_copyFrom 24 = .ok (.iconst 0, 1) := by decide +kernel
theorem dX0_copyFrom_25 : decode cX0_copyFrom 25 = .ok (.bipush 6, 2) := by decide +kernel
theorem dX0_copyFrom_27 : decode cX0_copyFrom 27 = .ok (.invokestatic 65, 3) := by decide +kernel
theorem dX0_copyFrom_30 : decode cX0_copyFrom 30 = .ok (.aload_n 1, 1) := by decide +kernel
theorem dX0_copyFrom_31 : decode cX0_copyFrom 31 = .ok (.getfield 18, 3) := by decide +kernel
theorem dX0_copyFrom_34 : decode cX0_copyFrom 34 = .ok (.iconst 0, 1) := by decide +kernel
theorem dX0_copyFrom_35 : decode cX0_copyFrom 35 = .ok (.aload_n 0, 1) := by decide +kernel
theorem dX0_copyFrom_36 : decode cX0_copyFrom 36 = .ok (.getfield 18, 3) := by decide +kernel
theorem dX0_copyFrom_39 : decode cX0_copyFrom 39 = .ok (.iconst 0, 1) := by decide +kernel
theorem dX0_copyFrom_40 : decode cX0_copyFrom 40 = .ok (.bipush 8, 2) := by decide +kernel
theorem dX0_copyFrom_42 : decode cX0_copyFrom 42 = .ok (.invokestatic 65, 3) := by decide +kernel
theorem dX0_copyFrom_45 : decode cX0_copyFrom 45 = .ok (.aload_n 1, 1) := by decide +kernel
theorem dX0_copyFrom_46 : decode cX0_copyFrom 46 = .ok (.getfield 21, 3) := by decide +kernel
theorem dX0_copyFrom_49 : decode cX0_copyFrom 49 = .ok (.iconst 0, 1) := by decide +kernel
theorem dX0_copyFrom_50 : decode cX0_copyFrom 50 = .ok (.aload_n 0, 1) := by decide +kernel
theorem dX0_copyFrom_51 : decode cX0_copyFrom 51 = .ok (.getfield 21, 3) := by decide +kernel
theorem dX0_copyFrom_54 : decode cX0_copyFrom 54 = .ok (.iconst 0, 1) := by decide +kernel
theorem dX0_copyFrom_55 : decode cX0_copyFrom 55 = .ok (.bipush 7, 2) := by decide +kernel
theorem dX0_copyFrom_57 : decode cX0_copyFrom 57 = .ok (.invokestatic 65, 3) := by decide +kernel
theorem dX0_copyFrom_60 : decode cX0_copyFrom 60 = .ok (.aload_n 1, 1) := by decide +kernel
theorem dX0_copyFrom_61 : decode cX0_copyFrom 61 = .ok (.getfield 24, 3) := by decide +kernel
theorem dX0_copyFrom_64 : decode cX0_copyFrom 64 = .ok (.iconst 0, 1) := by decide +kernel
theorem dX0_copyFrom_65 : decode cX0_copyFrom 65 = .ok (.aload_n 0, 1) := by decide +kernel
theorem dX0_copyFrom_66 : decode cX0_copyFrom 66 = .ok (.getfield 24, 3) := by decide +kernel
theorem dX0_copyFrom_69 : decode cX0_copyFrom 69 = .ok (.iconst 0, 1) := by decide +kernel
theorem dX0_copyFrom_70 : decode cX0_copyFrom 70 = .ok (.bipush 7, 2) := by decide +kernel
theorem dX0_copyFrom_72 : decode cX0_copyFrom 72 = .ok (.invokestatic 65, 3) := by decide +kernel
theorem dX0_copyFrom_75 : decode cX0_copyFrom 75 = .ok (.aload_n 1, 1) := by decide +kernel
theorem dX0_copyFrom_76 : decode cX0_copyFrom 76 = .ok (.getfield 27, 3) := by decide +kernel
theorem dX0_copyFrom_79 : decode cX0_copyFrom 79 = .ok (.iconst 0, 1) := by decide +kernel
theorem dX0_copyFrom_80 : decode cX0_copyFrom 80 = .ok (.aload_n 0, 1) := by decide +kernel
theorem dX0_copyFrom_81 : decode cX0_copyFrom 81 = .ok (.getfield 27, 3) := by decide +kernel
theorem dX0_copyFrom_84 : decode cX0_copyFrom 84 = .ok (.iconst 0, 1) := by decide +kernel
theorem dX0_copyFrom_85 : decode cX0_copyFrom 85 = .ok (.bipush 7, 2) := by decide +kernel
theorem dX0_copyFrom_87 : decode cX0_copyFrom 87 = .ok (.invokestatic 65, 3) := by decide +kernel
theorem dX0_copyFrom_90 : decode cX0_copyFrom 90 = .ok (.aload_n 1, 1) := by decide +kernel
theorem dX0_copyFrom_91 : decode cX0_copyFrom 91 = .ok (.getfield 30, 3) := by decide +kernel
theorem dX0_copyFrom_94 : decode cX0_copyFrom 94 = .ok (.iconst 0, 1) := by decide +kernel
theorem dX0_copyFrom_95 : decode cX0_copyFrom 95 = .ok (.aload_n 0, 1) := by decide +kernel
theorem dX0_copyFrom_96 : decode cX0_copyFrom 96 = .ok (.getfield 30, 3) := by decide +kernel
theorem dX0_copyFrom_99 : decode cX0_copyFrom 99 = .ok (.iconst 0, 1) := by decide +kernel
theorem dX0_copyFrom_100 : decode cX0_copyFrom 100 = .ok (.bipush 7, 2) := by decide +kernel
theorem dX0_copyFrom_102 : decode cX0_copyFrom 102 = .ok (.invokestatic 65, 3) := by decide +kernel
theorem dX0_copyFrom_105 : decode cX0_copyFrom 105 = .ok (.aload_n 1, 1) := by decide +kernel
theorem dX0_copyFrom_106 : decode cX0_copyFrom 106 = .ok (.getfield 34, 3) := by decide +kernel
theorem dX0_copyFrom_109 : decode cX0_copyFrom 109 = .ok (.iconst 0, 1) := by decide +kernel
theorem dX0_copyFrom_110 : decode cX0_copyFrom 110 = .ok (.aload_n 0, 1) := by decide +kernel
theorem dX0_copyFrom_111 : decode cX0_copyFrom 111 = .ok (.getfield 34, 3) := by decide +kernel
theorem dX0_copyFrom_114 : decode cX0_copyFrom 114 = .ok (.iconst 0, 1) := by decide +kernel
theorem dX0_copyFrom_115 : decode cX0_copyFrom 115 = .ok (.iconst 4, 1) := by decide +kernel
theorem dX0_copyFrom_116 : decode cX0_copyFrom 116 = .ok (.invokestatic 65, 3) := by decide +kernel
theorem dX0_copyFrom_119 : decode cX0_copyFrom 119 = .ok (.aload_n 1, 1) := by decide +kernel
theorem dX0_copyFrom_120 : decode cX0_copyFrom 120 = .ok (.getfield 37, 3) := by decide +kernel
theorem dX0_copyFrom_123 : decode cX0_copyFrom 123 = .ok (.iconst 0, 1) := by decide +kernel
theorem dX0_copyFrom_124 : decode cX0_copyFrom 124 = .ok (.aload_n 0, 1) := by decide +kernel
theorem dX0_copyFrom_125 : decode cX0_copyFrom 125 = .ok (.getfield 37, 3) := by decide +kernel
theorem dX0_copyFrom_128 : decode cX0_copyFrom 128 = .ok (.iconst 0, 1) := by decide +kernel
theorem dX0_copyFrom_129 : decode cX0_copyFrom 129 = .ok (.iconst 4, 1) := by decide +kernel
theorem dX0_copyFrom_130 : decode cX0_copyFrom 130 = .ok (.invokestatic 65, 3) := by decide +kernel
theorem dX0_copyFrom_133 : decode cX0_copyFrom 133 = .ok (.aload_n 1, 1) := by decide +kernel
theorem dX0_copyFrom_134 : decode cX0_copyFrom 134 = .ok (.getfield 40, 3) := by decide +kernel
theorem dX0_copyFrom_137 : decode cX0_copyFrom 137 = .ok (.iconst 0, 1) := by decide +kernel
theorem dX0_copyFrom_138 : decode cX0_copyFrom 138 = .ok (.aload_n 0, 1) := by decide +kernel
theorem dX0_copyFrom_139 : decode cX0_copyFrom 139 = .ok (.getfield 40, 3) := by decide +kernel
theorem dX0_copyFrom_142 : decode cX0_copyFrom 142 = .ok (.iconst 0, 1) := by decide +kernel
theorem dX0_copyFrom_143 : decode cX0_copyFrom 143 = .ok (.iconst 4, 1) := by decide +kernel
theorem dX0_copyFrom_144 : decode cX0_copyFrom 144 = .ok (.invokestatic 65, 3) := by decide +kernel
theorem dX0_copyFrom_147 : decode cX0_copyFrom 147 = .ok (.aload_n 0, 1) := by decide +kernel
theorem dX0_copyFrom_148 : decode cX0_copyFrom 148 = .ok (.aload_n 1, 1) := by decide +kernel
theorem dX0_copyFrom_149 : decode cX0_copyFrom 149 = .ok (.getfield 47, 3) := by decide +kernel
theorem dX0_copyFrom_152 : decode cX0_copyFrom 152 = .ok (.putfield 47, 3) := by decide +kernel
theorem dX0_copyFrom_155 : decode cX0_copyFrom 155 = .ok (.aload_n 0, 1) := by decide +kernel
theorem dX0_copyFrom_156 : decode cX0_copyFrom 156 = .ok (.aload_n 1, 1) := by decide +kernel
theorem dX0_copyFrom_157 : decode cX0_copyFrom 157 = .ok (.getfield 50, 3) := by decide +kernel
theorem dX0_copyFrom_160 : decode cX0_copyFrom 160 = .ok (.putfield 50, 3) := by decide +kernel
theorem dX0_copyFrom_163 : decode cX0_copyFrom 163 = .ok (.aload_n 0, 1) := by decide +kernel
theorem dX0_copyFrom_164 : decode cX0_copyFrom 164 = .ok (.aload_n 1, 1) := by decide +kernel
theorem dX0_copyFrom_165 : decode cX0_copyFrom 165 = .ok (.getfield 53, 3) := by decide +kernel
theorem dX0_copyFrom_168 : decode cX0_copyFrom 168 = .ok (.putfield 53, 3) := by decide +kernel
theorem dX0_copyFrom_171 : decode cX0_copyFrom 171 = .ok (.aload_n 0, 1) := by decide +kernel
theorem dX0_copyFrom_172 : decode cX0_copyFrom 172 = .ok (.aload_n 1, 1) := by decide +kernel
theorem dX0_copyFrom_173 : decode cX0_copyFrom 173 = .ok (.getfield 56, 3) := by decide +kernel
theorem dX0_copyFrom_176 : decode cX0_copyFrom 176 = .ok (.putfield 56, 3) := by decide +kernel
theorem dX0_copyFrom_179 : decode cX0_copyFrom 179 = .ok (.aload_n 0, 1) := by decide +kernel
theorem dX0_copyFrom_180 : decode cX0_copyFrom 180 = .ok (.aload_n 1, 1) := by decide +kernel
theorem dX0_copyFrom_181 : decode cX0_copyFrom 181 = .ok (.getfield 43, 3) := by decide +kernel
theorem dX0_copyFrom_184 : decode cX0_copyFrom 184 = .ok (.putfield 43, 3) := by decide +kernel
theorem dX0_copyFrom_187 : decode cX0_copyFrom 187 = .ok (.aload_n 0, 1) := by decide +kernel
theorem dX0_copyFrom_188 : decode cX0_copyFrom 188 = .ok (.aload_n 1, 1) := by decide +kernel
theorem dX0_copyFrom_189 : decode cX0_copyFrom 189 = .ok (.getfield 59, 3) := by decide +kernel
theorem dX0_copyFrom_192 : decode cX0_copyFrom 192 = .ok (.putfield 59, 3) := by decide +kernel
theorem dX0_copyFrom_195 : decode cX0_copyFrom 195 = .ok (.aload_n 0, 1) := by decide +kernel
theorem dX0_copyFrom_196 : decode cX0_copyFrom 196 = .ok (.aload_n 1, 1) := by decide +kernel
theorem dX0_copyFrom_197 : decode cX0_copyFrom 197 = .ok (.getfield 62, 3) := by decide +kernel
theorem dX0_copyFrom_200 : decode cX0_copyFrom 200 = .ok (.putfield 62, 3) := by decide +kernel
theorem dX0_copyFrom_203 : decode cX0_copyFrom 203 = .ok (.return_, 1) := by decide +kernel
theorem dX0_hasBed_0 : decode cX0_hasBed 0 = .ok (.iload_n 1, 1) := by decide +kernel
theorem dX0_hasBed_1 : decode cX0_hasBed 1 = .ok (.ifCond .lt 15, 3) := by decide +kernel
theorem dX0_hasBed_4 : decode cX0_hasBed 4 = .ok (.iload_n 1, 1) := by decide +kernel
theorem dX0_hasBed_5 : decode cX0_hasBed 5 = .ok (.aload_n 0, 1) := by decide +kernel
theorem dX0_hasBed_6 : decode cX0_hasBed 6 = .ok (.getfield 47, 3) := by decide +kernel
theorem dX0_hasBed_9 : decode cX0_hasBed 9 = .ok (.if_icmp .ge 7, 3) := by decide +kernel
theorem dX0_hasBed_12 : decode cX0_hasBed 12 = .ok (.iconst 1, 1) := by decide +kernel
theorem dX0_hasBed_13 : decode cX0_hasBed 13 = .ok (.goto 4, 3) := by decide +kernel
theorem dX0_hasBed_16 : decode cX0_hasBed 16 = .ok (.iconst 0, 1) := by decide +kernel
theorem dX0_hasBed_17 : decode cX0_hasBed 17 = .ok (.ireturn, 1) := by decide +kernel
theorem dX0_hasCase_0 : decode cX0_hasCase 0 = .ok (.iload_n 1, 1) := by decide +kernel
theorem dX0_hasCase_1 : decode cX0_hasCase 1 = .ok (.ifCond .lt 15, 3) := by decide +kernel
theorem dX0_hasCase_4 : decode cX0_hasCase 4 = .ok (.iload_n 1, 1) := by decide +kernel
theorem dX0_hasCase_5 : decode cX0_hasCase 5 = .ok (.aload_n 0, 1) := by decide +kernel
theorem dX0_hasCase_6 : decode cX0_hasCase 6 = .ok (.getfield 50, 3) := by decide +kernel
theorem dX0_hasCase_9 : decode cX0_hasCase 9 = .ok (.if_icmp .ge 7, 3) := by decide +kernel
theorem dX0_hasCase_12 : decode cX0_hasCase 12 = .ok (.iconst 1, 1) := by decide +kernel
theorem dX0_hasCase_13 : decode cX0_hasCase 13 = .ok (.goto 4, 3) := by decide +kernel
theorem dX0_hasCase_16 : decode cX0_hasCase 16 = .ok (.iconst 0, 1) := by decide +kernel
theorem dX0_hasCase_17 : decode cX0_hasCase 17 = .ok (.ireturn, 1) := by decide +kernel
theorem dX0_hasCases_0 : decode cX0_hasCases 0 = .ok (.iload_n 1, 1) := by decide +kernel
theorem dX0_hasCases_1 : decode cX0_hasCases 1 = .ok (.aload_n 0, 1) := by decide +kernel
theorem dX0_hasCases_2 : decode cX0_hasCases 2 = .ok (.invokevirtual 71, 3) := by decide +kernel
theorem dX0_hasCases_5 : decode cX0_hasCases 5 = .ok (.iconst (-1), 1) := by decide +kernel
theorem dX0_hasCases_6 : decode cX0_hasCases 6 = .ok (.ixor, 1) := by decide +kernel
theorem dX0_hasCases_7 : decode cX0_hasCases 7 = .ok (.iand, 1) := by decide +kernel
theorem dX0_hasCases_8 : decode cX0_hasCases 8 = .ok (.ifCond .ne 7, 3) := by decide +kernel
theorem dX0_hasCases_11 : decode cX0_hasCases 11 = .ok (.iconst 1, 1) := by decide +kernel
theorem dX0_hasCases_12 : decode cX0_hasCases 12 = .ok (.goto 4, 3) := by decide +kernel
theorem dX0_hasCases_15 : decode cX0_hasCases 15 = .ok (.iconst 0, 1) := by decide +kernel
theorem dX0_hasCases_16 : decode cX0_hasCases 16 = .ok (.ireturn, 1) := by decide +kernel
theorem dX0_hasClaim_0 : decode cX0_hasClaim 0 = .ok (.iload_n 1, 1) := by decide +kernel
theorem dX0_hasClaim_1 : decode cX0_hasClaim 1 = .ok (.ifCond .lt 15, 3) := by decide +kernel
theorem dX0_hasClaim_4 : decode cX0_hasClaim 4 = .ok (.iload_n 1, 1) := by decide +kernel
theorem dX0_hasClaim_5 : decode cX0_hasClaim 5 = .ok (.aload_n 0, 1) := by decide +kernel
theorem dX0_hasClaim_6 : decode cX0_hasClaim 6 = .ok (.getfield 53, 3) := by decide +kernel
theorem dX0_hasClaim_9 : decode cX0_hasClaim 9 = .ok (.if_icmp .ge 7, 3) := by decide +kernel
theorem dX0_hasClaim_12 : decode cX0_hasClaim 12 = .ok (.iconst 1, 1) := by decide +kernel
theorem dX0_hasClaim_13 : decode cX0_hasClaim 13 = .ok (.goto 4, 3) := by decide +kernel
theorem dX0_hasClaim_16 : decode cX0_hasClaim 16 = .ok (.iconst 0, 1) := by decide +kernel
theorem dX0_hasClaim_17 : decode cX0_hasClaim 17 = .ok (.ireturn, 1) := by decide +kernel
theorem dX0_hasScholar_0 : decode cX0_hasScholar 0 = .ok (.iload_n 1, 1) := by decide +kernel
theorem dX0_hasScholar_1 : decode cX0_hasScholar 1 = .ok (.ifCond .lt 15, 3) := by decide +kernel
theorem dX0_hasScholar_4 : decode cX0_hasScholar 4 = .ok (.iload_n 1, 1) := by decide +kernel
theorem dX0_hasScholar_5 : decode cX0_hasScholar 5 = .ok (.aload_n 0, 1) := by decide +kernel
theorem dX0_hasScholar_6 : decode cX0_hasScholar 6 = .ok (.getfield 56, 3) := by decide +kernel
theorem dX0_hasScholar_9 : decode cX0_hasScholar 9 = .ok (.if_icmp .ge 7, 3) := by decide +kernel
theorem dX0_hasScholar_12 : decode cX0_hasScholar 12 = .ok (.iconst 1, 1) := by decide +kernel
theorem dX0_hasScholar_13 : decode cX0_hasScholar 13 = .ok (.goto 4, 3) := by decide +kernel
theorem dX0_hasScholar_16 : decode cX0_hasScholar 16 = .ok (.iconst 0, 1) := by decide +kernel
theorem dX0_hasScholar_17 : decode cX0_hasScholar 17 = .ok (.ireturn, 1) := by decide +kernel
theorem dX0_setOfAll_0 : decode cX0_setOfAll 0 = .ok (.iconst 1, 1) := by decide +kernel
theorem dX0_setOfAll_1 : decode cX0_setOfAll 1 = .ok (.aload_n 0, 1) := by decide +kernel
theorem dX0_setOfAll_2 : decode cX0_setOfAll 2 = .ok (.getfield 50, 3) := by decide +kernel
theorem dX0_setOfAll_5 : decode cX0_setOfAll 5 = .ok (.ishl, 1) := by decide +kernel
theorem dX0_setOfAll_6 : decode cX0_setOfAll 6 = .ok (.iconst 1, 1) := by decide +kernel
theorem dX0_setOfAll_7 : decode cX0_setOfAll 7 = .ok (.isub, 1) := by decide +kernel
theorem dX0_setOfAll_8 : decode cX0_setOfAll 8 = .ok (.ireturn, 1) := by decide +kernel
theorem dX0_isMade_0 : decode cX0_isMade 0 = .ok (.aload_n 0, 1) := by decide +kernel
theorem dX0_isMade_1 : decode cX0_isMade 1 = .ok (.getfield 62, 3) := by decide +kernel
theorem dX0_isMade_4 : decode cX0_isMade 4 = .ok (.iconst 1, 1) := by decide +kernel
theorem dX0_isMade_5 : decode cX0_isMade 5 = .ok (.iload_n 1, 1) := by decide +kernel
theorem dX0_isMade_6 : decode cX0_isMade 6 = .ok (.ishl, 1) := by decide +kernel
theorem dX0_isMade_7 : decode cX0_isMade 7 = .ok (.iand, 1) := by decide +kernel
theorem dX0_isMade_8 : decode cX0_isMade 8 = .ok (.ifCond .eq 7, 3) := by decide +kernel
theorem dX0_isMade_11 : decode cX0_isMade 11 = .ok (.iconst 1, 1) := by decide +kernel
theorem dX0_isMade_12 : decode cX0_isMade 12 = .ok (.goto 4, 3) := by decide +kernel
theorem dX0_isMade_15 : decode cX0_isMade 15 = .ok (.iconst 0, 1) := by decide +kernel
theorem dX0_isMade_16 : decode cX0_isMade 16 = .ok (.ireturn, 1) := by decide +kernel
theorem dX0_allCrocuses_0 : decode cX0_allCrocuses 0 = .ok (.aload_n 0, 1) := by decide +kernel
theorem dX0_allCrocuses_1 : decode cX0_allCrocuses 1 = .ok (.getfield 9, 3) := by decide +kernel
theorem dX0_allCrocuses_4 : decode cX0_allCrocuses 4 = .ok (.aload_n 0, 1) := by decide +kernel
theorem dX0_allCrocuses_5 : decode cX0_allCrocuses 5 = .ok (.getfield 47, 3) := by decide +kernel
theorem dX0_allCrocuses_8 : decode cX0_allCrocuses 8 = .ok (.invokestatic 75, 3) := by decide +kernel
theorem dX0_allCrocuses_11 : decode cX0_allCrocuses 11 = .ok (.ireturn, 1) := by decide +kernel
theorem dX0_allShams_0 : decode cX0_allShams 0 = .ok (.aload_n 0, 1) := by decide +kernel
theorem dX0_allShams_1 : decode cX0_allShams 1 = .ok (.getfield 15, 3) := by decide +kernel
theorem dX0_allShams_4 : decode cX0_allShams 4 = .ok (.aload_n 0, 1) := by decide +kernel
theorem dX0_allShams_5 : decode cX0_allShams 5 = .ok (.getfield 47, 3) := by decide +kernel
theorem dX0_allShams_8 : decode cX0_allShams 8 = .ok (.invokestatic 75, 3) := by decide +kernel
theorem dX0_allShams_11 : decode cX0_allShams 11 = .ok (.ireturn, 1) := by decide +kernel
theorem dX0_allGold_0 : decode cX0_allGold 0 = .ok (.aload_n 0, 1) := by decide +kernel
theorem dX0_allGold_1 : decode cX0_allGold 1 = .ok (.getfield 37, 3) := by decide +kernel
theorem dX0_allGold_4 : decode cX0_allGold 4 = .ok (.aload_n 0, 1) := by decide +kernel
theorem dX0_allGold_5 : decode cX0_allGold 5 = .ok (.getfield 56, 3) := by decide +kernel
theorem dX0_allGold_8 : decode cX0_allGold 8 = .ok (.invokestatic 75, 3) := by decide +kernel
theorem dX0_allGold_11 : decode cX0_allGold 11 = .ok (.ireturn, 1) := by decide +kernel
theorem dX0_sumOf_0 : decode cX0_sumOf 0 = .ok (.iconst 0, 1) := by decide +kernel
theorem dX0_sumOf_1 : decode cX0_sumOf 1 = .ok (.istore_n 2, 1) := by decide +kernel
theorem dX0_sumOf_2 : decode cX0_sumOf 2 = .ok (.iconst 0, 1) := by decide +kernel
theorem dX0_sumOf_3 : decode cX0_sumOf 3 = .ok (.istore_n 3, 1) := by decide +kernel
theorem dX0_sumOf_4 : decode cX0_sumOf 4 = .ok (.iload_n 3, 1) := by decide +kernel
theorem dX0_sumOf_5 : decode cX0_sumOf 5 = .ok (.iload_n 1, 1) := by decide +kernel
theorem dX0_sumOf_6 : decode cX0_sumOf 6 = .ok (.if_icmp .ge 15, 3) := by decide +kernel
theorem dX0_sumOf_9 : decode cX0_sumOf 9 = .ok (.iload_n 2, 1) := by decide +kernel
theorem dX0_sumOf_10 : decode cX0_sumOf 10 = .ok (.aload_n 0, 1) := by decide +kernel
theorem dX0_sumOf_11 : decode cX0_sumOf 11 = .ok (.iload_n 3, 1) := by decide +kernel
theorem dX0_sumOf_12 : decode cX0_sumOf 12 = .ok (.iaload, 1) := by decide +kernel
theorem dX0_sumOf_13 : decode cX0_sumOf 13 = .ok (.iadd, 1) := by decide +kernel
theorem dX0_sumOf_14 : decode cX0_sumOf 14 = .ok (.istore_n 2, 1) := by decide +kernel
theorem dX0_sumOf_15 : decode cX0_sumOf 15 = .ok (.iinc 3 1, 3) := by decide +kernel
theorem dX0_sumOf_18 : decode cX0_sumOf 18 = .ok (.goto (-14), 3) := by decide +kernel
theorem dX0_sumOf_21 : decode cX0_sumOf 21 = .ok (.iload_n 2, 1) := by decide +kernel
theorem dX0_sumOf_22 : decode cX0_sumOf 22 = .ok (.ireturn, 1) := by decide +kernel
theorem dX0_weightOf_0 : decode cX0_weightOf 0 = .ok (.iconst 0, 1) := by decide +kernel
theorem dX0_weightOf_1 : decode cX0_weightOf 1 = .ok (.istore_n 2, 1) := by decide +kernel
theorem dX0_weightOf_2 : decode cX0_weightOf 2 = .ok (.iconst 0, 1) := by decide +kernel
theorem dX0_weightOf_3 : decode cX0_weightOf 3 = .ok (.istore_n 3, 1) := by decide +kernel
theorem dX0_weightOf_4 : decode cX0_weightOf 4 = .ok (.iload_n 3, 1) := by decide +kernel
theorem dX0_weightOf_5 : decode cX0_weightOf 5 = .ok (.aload_n 0, 1) := by decide +kernel
theorem dX0_weightOf_6 : decode cX0_weightOf 6 = .ok (.getfield 50, 3) := by decide +kernel
theorem dX0_weightOf_9 : decode cX0_weightOf 9 = .ok (.if_icmp .ge 26, 3) := by decide +kernel
theorem dX0_weightOf_12 : decode cX0_weightOf 12 = .ok (.iload_n 1, 1) := by decide +kernel
theorem dX0_weightOf_13 : decode cX0_weightOf 13 = .ok (.iconst 1, 1) := by decide +kernel
theorem dX0_weightOf_14 : decode cX0_weightOf 14 = .ok (.iload_n 3, 1) := by decide +kernel
theorem dX0_weightOf_15 : decode cX0_weightOf 15 = .ok (.ishl, 1) := by decide +kernel
theorem dX0_weightOf_16 : decode cX0_weightOf 16 = .ok (.iand, 1) := by decide +kernel
theorem dX0_weightOf_17 : decode cX0_weightOf 17 = .ok (.ifCond .eq 12, 3) := by decide +kernel
theorem dX0_weightOf_20 : decode cX0_weightOf 20 = .ok (.iload_n 2, 1) := by decide +kernel
theorem dX0_weightOf_21 : decode cX0_weightOf 21 = .ok (.aload_n 0, 1) := by decide +kernel
theorem dX0_weightOf_22 : decode cX0_weightOf 22 = .ok (.getfield 18, 3) := by decide +kernel
theorem dX0_weightOf_25 : decode cX0_weightOf 25 = .ok (.iload_n 3, 1) := by decide +kernel
theorem dX0_weightOf_26 : decode cX0_weightOf 26 = .ok (.iaload, 1) := by decide +kernel
theorem dX0_weightOf_27 : decode cX0_weightOf 27 = .ok (.iadd, 1) := by decide +kernel
theorem dX0_weightOf_28 : decode cX0_weightOf 28 = .ok (.istore_n 2, 1) := by decide +kernel
theorem dX0_weightOf_29 : decode cX0_weightOf 29 = .ok (.iinc 3 1, 3) := by decide +kernel
theorem dX0_weightOf_32 : decode cX0_weightOf 32 = .ok (.goto (-28), 3) := by decide +kernel
theorem dX0_weightOf_35 : decode cX0_weightOf 35 = .ok (.iload_n 2, 1) := by decide +kernel
theorem dX0_weightOf_36 : decode cX0_weightOf 36 = .ok (.ireturn, 1) := by decide +kernel
theorem dX0_heaviestOf_0 : decode cX0_heaviestOf 0 = .ok (.iconst (-1), 1) := by decide +kernel
theorem dX0_heaviestOf_1 : decode cX0_heaviestOf 1 = .ok (.istore_n 2, 1) := by decide +kernel
theorem dX0_heaviestOf_2 : decode cX0_heaviestOf 2 = .ok (.iconst 0, 1) := by decide +kernel
theorem dX0_heaviestOf_3 : decode cX0_heaviestOf 3 = .ok (.istore_n 3, 1) := by decide +kernel
theorem dX0_heaviestOf_4 : decode cX0_heaviestOf 4 = .ok (.iconst 0, 1) := by decide +kernel
theorem dX0_heaviestOf_5 : decode cX0_heaviestOf 5 = .ok (.istore 4, 2) := by decide +kernel
theorem dX0_heaviestOf_7 : decode cX0_heaviestOf 7 = .ok (.iload 4, 2) := by decide +kernel
theorem dX0_heaviestOf_9 : decode cX0_heaviestOf 9 = .ok (.aload_n 0, 1) := by decide +kernel
theorem dX0_heaviestOf_10 : decode cX0_heaviestOf 10 = .ok (.getfield 50, 3) := by decide +kernel
theorem dX0_heaviestOf_13 : decode cX0_heaviestOf 13 = .ok (.if_icmp .ge 40, 3) := by decide +kernel
theorem dX0_heaviestOf_16 : decode cX0_heaviestOf 16 = .ok (.iload_n 1, 1) := by decide +kernel
theorem dX0_heaviestOf_17 : decode cX0_heaviestOf 17 = .ok (.iconst 1, 1) := by decide +kernel
theorem dX0_heaviestOf_18 : decode cX0_heaviestOf 18 = .ok (.iload 4, 2) := by decide +kernel
theorem dX0_heaviestOf_20 : decode cX0_heaviestOf 20 = .ok (.ishl, 1) := by decide +kernel
theorem dX0_heaviestOf_21 : decode cX0_heaviestOf 21 = .ok (.iand, 1) := by decide +kernel
theorem dX0_heaviestOf_22 : decode cX0_heaviestOf 22 = .ok (.ifCond .eq 25, 3) := by decide +kernel
theorem dX0_heaviestOf_25 : decode cX0_heaviestOf 25 = .ok (.aload_n 0, 1) := by decide +kernel
theorem dX0_heaviestOf_26 : decode cX0_heaviestOf 26 = .ok (.getfield 18, 3) := by decide +kernel
theorem dX0_heaviestOf_29 : decode cX0_heaviestOf 29 = .ok (.iload 4, 2) := by decide +kernel
theorem dX0_heaviestOf_31 : decode cX0_heaviestOf 31 = .ok (.iaload, 1) := by decide +kernel
theorem dX0_heaviestOf_32 : decode cX0_heaviestOf 32 = .ok (.iload_n 3, 1) := by decide +kernel
theorem dX0_heaviestOf_33 : decode cX0_heaviestOf 33 = .ok (.if_icmp .le 14, 3) := by decide +kernel
theorem dX0_heaviestOf_36 : decode cX0_heaviestOf 36 = .ok (.aload_n 0, 1) := by decide +kernel
theorem dX0_heaviestOf_37 : decode cX0_heaviestOf 37 = .ok (.getfield 18, 3) := by decide +kernel
theorem dX0_heaviestOf_40 : decode cX0_heaviestOf 40 = .ok (.iload 4, 2) := by decide +kernel
theorem dX0_heaviestOf_42 : decode cX0_heaviestOf 42 = .ok (.iaload, 1) := by decide +kernel
theorem dX0_heaviestOf_43 : decode cX0_heaviestOf 43 = .ok (.istore_n 3, 1) := by decide +kernel
theorem dX0_heaviestOf_44 : decode cX0_heaviestOf 44 = .ok (.iload 4, 2) := by decide +kernel
theorem dX0_heaviestOf_46 : decode cX0_heaviestOf 46 = .ok (.istore_n 2, 1) := by decide +kernel
theorem dX0_heaviestOf_47 : decode cX0_heaviestOf 47 = .ok (.iinc 4 1, 3) := by decide +kernel
theorem dX0_heaviestOf_50 : decode cX0_heaviestOf 50 = .ok (.goto (-43), 3) := by decide +kernel
theorem dX0_heaviestOf_53 : decode cX0_heaviestOf 53 = .ok (.iload_n 2, 1) := by decide +kernel
theorem dX0_heaviestOf_54 : decode cX0_heaviestOf 54 = .ok (.ireturn, 1) := by decide +kernel
theorem dX0_addBed_0 : decode cX0_addBed 0 = .ok (.aload_n 0, 1) := by decide +kernel
theorem dX0_addBed_1 : decode cX0_addBed 1 = .ok (.getfield 9, 3) := by decide +kernel
theorem dX0_addBed_4 : decode cX0_addBed 4 = .ok (.aload_n 0, 1) := by decide +kernel
theorem dX0_addBed_5 : decode cX0_addBed 5 = .ok (.getfield 47, 3) := by decide +kernel
theorem dX0_addBed_8 : decode cX0_addBed 8 = .ok (.iload_n 1, 1) := by decide +kernel
theorem dX0_addBed_9 : decode cX0_addBed 9 = .ok (.iastore, 1) := by decide +kernel
theorem dX0_addBed_10 : decode cX0_addBed 10 = .ok (.aload_n 0, 1) := by decide +kernel
theorem dX0_addBed_11 : decode cX0_addBed 11 = .ok (.getfield 15, 3) := by decide +kernel
theorem dX0_addBed_14 : decode cX0_addBed 14 = .ok (.aload_n 0, 1) := by decide +kernel
theorem dX0_addBed_15 : decode cX0_addBed 15 = .ok (.getfield 47, 3) := by decide +kernel
theorem dX0_addBed_18 : decode cX0_addBed 18 = .ok (.iload_n 2, 1) := by decide +kernel
theorem dX0_addBed_19 : decode cX0_addBed 19 = .ok (.iastore, 1) := by decide +kernel
theorem dX0_addBed_20 : decode cX0_addBed 20 = .ok (.aload_n 0, 1) := by decide +kernel
theorem dX0_addBed_21 : decode cX0_addBed 21 = .ok (.dup, 1) := by decide +kernel
theorem dX0_addBed_22 : decode cX0_addBed 22 = .ok (.getfield 47, 3) := by decide +kernel
theorem dX0_addBed_25 : decode cX0_addBed 25 = .ok (.iconst 1, 1) := by decide +kernel
theorem dX0_addBed_26 : decode cX0_addBed 26 = .ok (.iadd, 1) := by decide +kernel
theorem dX0_addBed_27 : decode cX0_addBed 27 = .ok (.putfield 47, 3) := by decide +kernel
theorem dX0_addBed_30 : decode cX0_addBed 30 = .ok (.return_, 1) := by decide +kernel
theorem dX0_addCase_0 : decode cX0_addCase 0 = .ok (.aload_n 0, 1) := by decide +kernel
theorem dX0_addCase_1 : decode cX0_addCase 1 = .ok (.getfield 18, 3) := by decide +kernel
theorem dX0_addCase_4 : decode cX0_addCase 4 = .ok (.aload_n 0, 1) := by decide +kernel
theorem dX0_addCase_5 : decode cX0_addCase 5 = .ok (.getfield 50, 3) := by decide +kernel
theorem dX0_addCase_8 : decode cX0_addCase 8 = .ok (.iload_n 1, 1) := by decide +kernel
theorem dX0_addCase_9 : decode cX0_addCase 9 = .ok (.iastore, 1) := by decide +kernel
theorem dX0_addCase_10 : decode cX0_addCase 10 = .ok (.aload_n 0, 1) := by decide +kernel
theorem dX0_addCase_11 : decode cX0_addCase 11 = .ok (.dup, 1) := by decide +kernel
theorem dX0_addCase_12 : decode cX0_addCase 12 = .ok (.getfield 50, 3) := by decide +kernel
theorem dX0_addCase_15 : decode cX0_addCase 15 = .ok (.iconst 1, 1) := by decide +kernel
theorem dX0_addCase_16 : decode cX0_addCase 16 = .ok (.iadd, 1) := by decide +kernel
theorem dX0_addCase_17 : decode cX0_addCase 17 = .ok (.putfield 50, 3) := by decide +kernel
theorem dX0_addCase_20 : decode cX0_addCase 20 = .ok (.return_, 1) := by decide +kernel
theorem dX0_addClaim_0 : decode cX0_addClaim 0 = .ok (.aload_n 0, 1) := by decide +kernel
theorem dX0_addClaim_1 : decode cX0_addClaim 1 = .ok (.getfield 30, 3) := by decide +kernel
theorem dX0_addClaim_4 : decode cX0_addClaim 4 = .ok (.aload_n 0, 1) := by decide +kernel
theorem dX0_addClaim_5 : decode cX0_addClaim 5 = .ok (.getfield 53, 3) := by decide +kernel
theorem dX0_addClaim_8 : decode cX0_addClaim 8 = .ok (.lload_n 1, 1) := by decide +kernel
theorem dX0_addClaim_9 : decode cX0_addClaim 9 = .ok (.lastore, 1) := by decide +kernel
theorem dX0_addClaim_10 : decode cX0_addClaim 10 = .ok (.aload_n 0, 1) := by decide +kernel
theorem dX0_addClaim_11 : decode cX0_addClaim 11 = .ok (.getfield 21, 3) := by decide +kernel
theorem dX0_addClaim_14 : decode cX0_addClaim 14 = .ok (.aload_n 0, 1) := by decide +kernel
theorem dX0_addClaim_15 : decode cX0_addClaim 15 = .ok (.getfield 53, 3) := by decide +kernel
theorem dX0_addClaim_18 : decode cX0_addClaim 18 = .ok (.iload_n 3, 1) := by decide +kernel
theorem dX0_addClaim_19 : decode cX0_addClaim 19 = .ok (.iastore, 1) := by decide +kernel
theorem dX0_addClaim_20 : decode cX0_addClaim 20 = .ok (.aload_n 0, 1) := by decide +kernel
theorem dX0_addClaim_21 : decode cX0_addClaim 21 = .ok (.getfield 24, 3) := by decide +kernel
theorem dX0_addClaim_24 : decode cX0_addClaim 24 = .ok (.aload_n 0, 1) := by decide +kernel
theorem dX0_addClaim_25 : decode cX0_addClaim 25 = .ok (.getfield 53, 3) := by decide +kernel
theorem dX0_addClaim_28 : decode cX0_addClaim 28 = .ok (.iload 4, 2) := by decide +kernel
theorem dX0_addClaim_30 : decode cX0_addClaim 30 = .ok (.iastore, 1) := by decide +kernel
theorem dX0_addClaim_31 : decode cX0_addClaim 31 = .ok (.aload_n 0, 1) := by decide +kernel
theorem dX0_addClaim_32 : decode cX0_addClaim 32 = .ok (.getfield 27, 3) := by decide +kernel
theorem dX0_addClaim_35 : decode cX0_addClaim 35 = .ok (.aload_n 0, 1) := by decide +kernel
theorem dX0_addClaim_36 : decode cX0_addClaim 36 = .ok (.getfield 53, 3) := by decide +kernel
theorem dX0_addClaim_39 : decode cX0_addClaim 39 = .ok (.iload 5, 2) := by decide +kernel
theorem dX0_addClaim_41 : decode cX0_addClaim 41 = .ok (.iastore, 1) := by decide +kernel
theorem dX0_addClaim_42 : decode cX0_addClaim 42 = .ok (.aload_n 0, 1) := by decide +kernel
theorem dX0_addClaim_43 : decode cX0_addClaim 43 = .ok (.dup, 1) := by decide +kernel
theorem dX0_addClaim_44 : decode cX0_addClaim 44 = .ok (.getfield 53, 3) := by decide +kernel
theorem dX0_addClaim_47 : decode cX0_addClaim 47 = .ok (.iconst 1, 1) := by decide +kernel
theorem dX0_addClaim_48 : decode cX0_addClaim 48 = .ok (.iadd, 1) := by decide +kernel
theorem dX0_addClaim_49 : decode cX0_addClaim 49 = .ok (.putfield 53, 3) := by decide +kernel
theorem dX0_addClaim_52 : decode cX0_addClaim 52 = .ok (.return_, 1) := by decide +kernel
theorem dX0_addScholar_0 : decode cX0_addScholar 0 = .ok (.aload_n 0, 1) := by decide +kernel
theorem dX0_addScholar_1 : decode cX0_addScholar 1 = .ok (.getfield 40, 3) := by decide +kernel
theorem dX0_addScholar_4 : decode cX0_addScholar 4 = .ok (.aload_n 0, 1) := by decide +kernel
theorem dX0_addScholar_5 : decode cX0_addScholar 5 = .ok (.getfield 56, 3) := by decide +kernel
theorem dX0_addScholar_8 : decode cX0_addScholar 8 = .ok (.lload_n 1, 1) := by decide +kernel
theorem dX0_addScholar_9 : decode cX0_addScholar 9 = .ok (.lastore, 1) := by decide +kernel
theorem dX0_addScholar_10 : decode cX0_addScholar 10 = .ok (.aload_n 0, 1) := by decide +kernel
theorem dX0_addScholar_11 : decode cX0_addScholar 11 = .ok (.getfield 34, 3) := by decide +kernel
theorem dX0_addScholar_14 : decode cX0_addScholar 14 = .ok (.aload_n 0, 1) := by decide +kernel
theorem dX0_addScholar_15 : decode cX0_addScholar 15 = .ok (.getfield 56, 3) := by decide +kernel
theorem dX0_addScholar_18 : decode cX0_addScholar 18 = .ok (.iload_n 3, 1) := by decide +kernel
theorem dX0_addScholar_19 : decode cX0_addScholar 19 = .ok (.iastore, 1) := by decide +kernel
theorem dX0_addScholar_20 : decode cX0_addScholar 20 = .ok (.aload_n 0, 1) := by decide +kernel
theorem dX0_addScholar_21 : decode cX0_addScholar 21 = .ok (.getfield 37, 3) := by decide +kernel
theorem dX0_addScholar_24 : decode cX0_addScholar 24 = .ok (.aload_n 0, 1) := by decide +kernel
theorem dX0_addScholar_25 : decode cX0_addScholar 25 = .ok (.getfield 56, 3) := by decide +kernel
theorem dX0_addScholar_28 : decode cX0_addScholar 28 = .ok (.iload 4, 2) := by decide +kernel
theorem dX0_addScholar_30 : decode cX0_addScholar 30 = .ok (.iastore, 1) := by decide +kernel
theorem dX0_addScholar_31 : decode cX0_addScholar 31 = .ok (.aload_n 0, 1) := by decide +kernel
theorem dX0_addScholar_32 : decode cX0_addScholar 32 = .ok (.dup, 1) := by decide +kernel
theorem dX0_addScholar_33 : decode cX0_addScholar 33 = .ok (.getfield 56, 3) := by decide +kernel
theorem dX0_addScholar_36 : decode cX0_addScholar 36 = .ok (.iconst 1, 1) := by decide +kernel
theorem dX0_addScholar_37 : decode cX0_addScholar 37 = .ok (.iadd, 1) := by decide +kernel
theorem dX0_addScholar_38 : decode cX0_addScholar 38 = .ok (.putfield 56, 3) := by decide +kernel
theorem dX0_addScholar_41 : decode cX0_addScholar 41 = .ok (.return_, 1) := by decide +kernel
theorem dX0_partUnder_0 : decode cX0_partUnder 0 = .ok (.iconst 1, 1) := by decide +kernel
theorem dX0_partUnder_1 : decode cX0_partUnder 1 = .ok (.aload_n 0, 1) := by decide +kernel
theorem dX0_partUnder_2 : decode cX0_partUnder 2 = .ok (.getfield 50, 3) := by decide +kernel
theorem dX0_partUnder_5 : decode cX0_partUnder 5 = .ok (.ishl, 1) := by decide +kernel
theorem dX0_partUnder_6 : decode cX0_partUnder 6 = .ok (.iconst 1, 1) := by decide +kernel
theorem dX0_partUnder_7 : decode cX0_partUnder 7 = .ok (.isub, 1) := by decide +kernel
theorem dX0_partUnder_8 : decode cX0_partUnder 8 = .ok (.istore_n 3, 1) := by decide +kernel
theorem dX0_partUnder_9 : decode cX0_partUnder 9 = .ok (.iconst 0, 1) := by decide +kernel
theorem dX0_partUnder_10 : decode cX0_partUnder 10 = .ok (.istore 4, 2) := by decide +kernel
theorem dX0_partUnder_12 : decode cX0_partUnder 12 = .ok (.iload 4, 2) := by decide +kernel
theorem dX0_partUnder_14 : decode cX0_partUnder 14 = .ok (.aload_n 0, 1) := by decide +kernel
theorem dX0_partUnder_15 : decode cX0_partUnder 15 = .ok (.getfield 53, 3) := by decide +kernel
theorem dX0_partUnder_18 : decode cX0_partUnder 18 = .ok (.if_icmp .ge 66, 3) := by decide +kernel
theorem dX0_partUnder_21 : decode cX0_partUnder 21 = .ok (.iload_n 1, 1) := by decide +kernel
theorem dX0_partUnder_22 : decode cX0_partUnder 22 = .ok (.iconst 1, 1) := by decide +kernel
theorem dX0_partUnder_23 : decode cX0_partUnder 23 = .ok (.iload 4, 2) := by decide +kernel
theorem dX0_partUnder_25 : decode cX0_partUnder 25 = .ok (.ishl, 1) := by decide +kernel
theorem dX0_partUnder_26 : decode cX0_partUnder 26 = .ok (.iand, 1) := by decide +kernel
theorem dX0_partUnder_27 : decode cX0_partUnder 27 = .ok (.ifCond .eq 51, 3) := by decide +kernel
theorem dX0_partUnder_30 : decode cX0_partUnder 30 = .ok (.aload_n 0, 1) := by decide +kernel
theorem dX0_partUnder_31 : decode cX0_partUnder 31 = .ok (.getfield 27, 3) := by decide +kernel
theorem dX0_partUnder_34 : decode cX0_partUnder 34 = .ok (.iload 4, 2) := by decide +kernel
theorem dX0_partUnder_36 : decode cX0_partUnder 36 = .ok (.iaload, 1) := by decide +kernel
theorem dX0_partUnder_37 : decode cX0_partUnder 37 = .ok (.iconst 1, 1) := by decide +kernel
theorem dX0_partUnder_38 : decode cX0_partUnder 38 = .ok (.iload_n 2, 1) := by decide +kernel
theorem dX0_partUnder_39 : decode cX0_partUnder 39 = .ok (.ishl, 1) := by decide +kernel
theorem dX0_partUnder_40 : decode cX0_partUnder 40 = .ok (.iand, 1) := by decide +kernel
theorem dX0_partUnder_41 : decode cX0_partUnder 41 = .ok (.ifCond .eq 7, 3) := by decide +kernel
theorem dX0_partUnder_44 : decode cX0_partUnder 44 = .ok (.iconst 1, 1) := by decide +kernel
theorem dX0_partUnder_45 : decode cX0_partUnder 45 = .ok (.goto 4, 3) := by decide +kernel
theorem dX0_partUnder_48 : decode cX0_partUnder 48 = .ok (.iconst 0, 1) := by decide +kernel
theorem dX0_partUnder_49 : decode cX0_partUnder 49 = .ok (.istore 5, 2) := by decide +kernel
theorem dX0_partUnder_51 : decode cX0_partUnder 51 = .ok (.iload_n 3, 1) := by decide +kernel
theorem dX0_partUnder_52 : decode cX0_partUnder 52 = .ok (.iload 5, 2) := by decide +kernel
theorem dX0_partUnder_54 : decode cX0_partUnder 54 = .ok (.ifCond .eq 13, 3) := by decide +kernel
theorem dX0_partUnder_57 : decode cX0_partUnder 57 = .ok (.aload_n 0, 1) := by decide +kernel
theorem dX0_partUnder_58 : decode cX0_partUnder 58 = .ok (.getfield 27, 3) := by decide +kernel
theorem dX0_partUnder_61 : decode cX0_partUnder 61 = .ok (.iload 4, 2) := by decide +kernel
theorem dX0_partUnder_63 : decode cX0_partUnder 63 = .ok (.iaload, 1) := by decide +kernel
theorem dX0_partUnder_64 : decode cX0_partUnder 64 = .ok (.goto 12, 3) := by decide +kernel
theorem dX0_partUnder_67 : decode cX0_partUnder 67 = .ok (.aload_n 0, 1) := by decide +kernel
theorem dX0_partUnder_68 : decode cX0_partUnder 68 = .ok (.getfield 27, 3) := by decide +kernel
theorem dX0_partUnder_71 : decode cX0_partUnder 71 = .ok (.iload 4, 2) := by decide +kernel
theorem dX0_partUnder_73 : decode cX0_partUnder 73 = .ok (.iaload, 1) := by decide +kernel
theorem dX0_partUnder_74 : decode cX0_partUnder 74 = .ok (.iconst (-1), 1) := by decide +kernel
theorem dX0_partUnder_75 : decode cX0_partUnder 75 = .ok (.ixor, 1) := by decide +kernel
theorem dX0_partUnder_76 : decode cX0_partUnder 76 = .ok (.iand, 1) := by decide +kernel
theorem dX0_partUnder_77 : decode cX0_partUnder 77 = .ok (.istore_n 3, 1) := by decide +kernel
theorem dX0_partUnder_78 : decode cX0_partUnder 78 = .ok (.iinc 4 1, 3) := by decide +kernel
theorem dX0_partUnder_81 : decode cX0_partUnder 81 = .ok (.goto (-69), 3) := by decide +kernel
theorem dX0_partUnder_84 : decode cX0_partUnder 84 = .ok (.iload_n 3, 1) := by decide +kernel
theorem dX0_partUnder_85 : decode cX0_partUnder 85 = .ok (.ireturn, 1) := by decide +kernel
theorem dX0_countParts_0 : decode cX0_countParts 0 = .ok (.iconst 0, 1) := by decide +kernel
theorem dX0_countParts_1 : decode cX0_countParts 1 = .ok (.istore_n 1, 1) := by decide +kernel
theorem dX0_countParts_2 : decode cX0_countParts 2 = .ok (.iconst 0, 1) := by decide +kernel
theorem dX0_countParts_3 : decode cX0_countParts 3 = .ok (.istore_n 2, 1) := by decide +kernel
theorem dX0_countParts_4 : decode cX0_countParts 4 = .ok (.iconst 0, 1) := by decide +kernel
theorem dX0_countParts_5 : decode cX0_countParts 5 = .ok (.istore_n 3, 1) := by decide +kernel
theorem dX0_countParts_6 : decode cX0_countParts 6 = .ok (.iload_n 3, 1) := by decide +kernel
theorem dX0_countParts_7 : decode cX0_countParts 7 = .ok (.aload_n 0, 1) := by decide +kernel
theorem dX0_countParts_8 : decode cX0_countParts 8 = .ok (.getfield 50, 3) := by decide +kernel
theorem dX0_countParts_11 : decode cX0_countParts 11 = .ok (.if_icmp .ge 32, 3) := by decide +kernel
theorem dX0_countParts_14 : decode cX0_countParts 14 = .ok (.iload_n 2, 1) := by decide +kernel
theorem dX0_countParts_15 : decode cX0_countParts 15 = .ok (.iconst 1, 1) := by decide +kernel
theorem dX0_countParts_16 : decode cX0_countParts 16 = .ok (.iload_n 3, 1) := by decide +kernel
theorem dX0_countParts_17 : decode cX0_countParts 17 = .ok (.ishl, 1) := by decide +kernel
theorem dX0_countParts_18 : decode cX0_countParts 18 = .ok (.iand, 1) := by decide +kernel
theorem dX0_countParts_19 : decode cX0_countParts 19 = .ok (.ifCond .ne 18, 3) := by decide +kernel
theorem dX0_countParts_22 : decode cX0_countParts 22 = .ok (.iload_n 2, 1) := by decide +kernel
theorem dX0_countParts_23 : decode cX0_countParts 23 = .ok (.aload_n 0, 1) := by decide +kernel
theorem dX0_countParts_24 : decode cX0_countParts 24 = .ok (.aload_n 0, 1) := by decide +kernel
theorem dX0_countParts_25 : decode cX0_countParts 25 = .ok (.getfield 62, 3) := by decide +kernel
theorem dX0_countParts_28 : decode cX0_countParts 28 = .ok (.iload_n 3, 1) := by decide +kernel
theorem dX0_countParts_29 : decode cX0_countParts 29 = .ok (.invokevirtual 79, 3) := by decide +kernel
theorem dX0_countParts_32 : decode cX0_countParts 32 = .ok (.ior, 1) := by decide +kernel
theorem dX0_countParts_33 : decode cX0_countParts 33 = .ok (.istore_n 2, 1) := by decide +kernel
theorem dX0_countParts_34 : decode cX0_countParts 34 = .ok (.iinc 1 1, 3) := by decide +kernel
theorem dX0_countParts_37 : decode cX0_countParts 37 = .ok (.iinc 3 1, 3) := by decide +kernel
theorem dX0_countParts_40 : decode cX0_countParts 40 = .ok (.goto (-34), 3) := by decide +kernel
theorem dX0_countParts_43 : decode cX0_countParts 43 = .ok (.iload_n 1, 1) := by decide +kernel
theorem dX0_countParts_44 : decode cX0_countParts 44 = .ok (.ireturn, 1) := by decide +kernel
theorem dX0_yieldUnder_0 : decode cX0_yieldUnder 0 = .ok (.iload_n 1, 1) := by decide +kernel
theorem dX0_yieldUnder_1 : decode cX0_yieldUnder 1 = .ok (.iconst 1, 1) := by decide +kernel
theorem dX0_yieldUnder_2 : decode cX0_yieldUnder 2 = .ok (.iload_n 2, 1) := by decide +kernel
theorem dX0_yieldUnder_3 : decode cX0_yieldUnder 3 = .ok (.ishl, 1) := by decide +kernel
theorem dX0_yieldUnder_4 : decode cX0_yieldUnder 4 = .ok (.iand, 1) := by decide +kernel
theorem dX0_yieldUnder_5 : decode cX0_yieldUnder 5 = .ok (.ifCond .eq 5, 3) := by decide +kernel
theorem dX0_yieldUnder_8 : decode cX0_yieldUnder 8 = .ok (.iconst 0, 1) := by decide +kernel
theorem dX0_yieldUnder_9 : decode cX0_yieldUnder 9 = .ok (.ireturn, 1) := by decide +kernel
theorem dX0_yieldUnder_10 : decode cX0_yieldUnder 10 = .ok (.iconst 0, 1) := by decide +kernel
theorem dX0_yieldUnder_11 : decode cX0_yieldUnder 11 = .ok (.istore_n 3, 1) := by decide +kernel
theorem dX0_yieldUnder_12 : decode cX0_yieldUnder 12 = .ok (.iconst 0, 1) := by decide +kernel
theorem dX0_yieldUnder_13 : decode cX0_yieldUnder 13 = .ok (.istore 4, 2) := by decide +kernel
theorem dX0_yieldUnder_15 : decode cX0_yieldUnder 15 = .ok (.iconst 0, 1) := by decide +kernel
theorem dX0_yieldUnder_16 : decode cX0_yieldUnder 16 = .ok (.istore 5, 2) := by decide +kernel
theorem dX0_yieldUnder_18 : decode cX0_yieldUnder 18 = .ok (.iload 5, 2) := by decide +kernel
theorem dX0_yieldUnder_20 : decode cX0_yieldUnder 20 = .ok (.aload_n 0, 1) := by decide +kernel
theorem dX0_yieldUnder_21 : decode cX0_yieldUnder 21 = .ok (.getfield 50, 3) := by decide +kernel
theorem dX0_yieldUnder_24 : decode cX0_yieldUnder 24 = .ok (.if_icmp .ge 65, 3) := by decide +kernel
theorem dX0_yieldUnder_27 : decode cX0_yieldUnder 27 = .ok (.iload 4, 2) := by decide +kernel
theorem dX0_yieldUnder_29 : decode cX0_yieldUnder 29 = .ok (.iconst 1, 1) := by decide +kernel
theorem dX0_yieldUnder_30 : decode cX0_yieldUnder 30 = .ok (.iload 5, 2) := by decide +kernel
theorem dX0_yieldUnder_32 : decode cX0_yieldUnder 32 = .ok (.ishl, 1) := by decide +kernel
theorem dX0_yieldUnder_33 : decode cX0_yieldUnder 33 = .ok (.iand, 1) := by decide +kernel
theorem dX0_yieldUnder_34 : decode cX0_yieldUnder 34 = .ok (.ifCond .ne 49, 3) := by decide +kernel
theorem dX0_yieldUnder_37 : decode cX0_yieldUnder 37 = .ok (.aload_n 0, 1) := by decide +kernel
theorem dX0_yieldUnder_38 : decode cX0_yieldUnder 38 = .ok (.iload_n 1, 1) := by decide +kernel
theorem dX0_yieldUnder_39 : decode cX0_yieldUnder 39 = .ok (.iload 5, 2) := by decide +kernel
theorem dX0_yieldUnder_41 : decode cX0_yieldUnder 41 = .ok (.invokevirtual 79, 3) := by decide +kernel
theorem dX0_yieldUnder_44 : decode cX0_yieldUnder 44 = .ok (.istore 6, 2) := by decide +kernel
theorem dX0_yieldUnder_46 : decode cX0_yieldUnder 46 = .ok (.iload 6, 2) := by decide +kernel
theorem dX0_yieldUnder_48 : decode cX0_yieldUnder 48 = .ok (.aload_n 0, 1) := by decide +kernel
theorem dX0_yieldUnder_49 : decode cX0_yieldUnder 49 = .ok (.getfield 27, 3) := by decide +kernel
theorem dX0_yieldUnder_52 : decode cX0_yieldUnder 52 = .ok (.iload_n 2, 1) := by decide +kernel
theorem dX0_yieldUnder_53 : decode cX0_yieldUnder 53 = .ok (.iaload, 1) := by decide +kernel
theorem dX0_yieldUnder_54 : decode cX0_yieldUnder 54 = .ok (.iand, 1) := by decide +kernel
theorem dX0_yieldUnder_55 : decode cX0_yieldUnder 55 = .ok (.invokestatic 83, 3) := by decide +kernel
theorem dX0_yieldUnder_58 : decode cX0_yieldUnder 58 = .ok (.istore 7, 2) := by decide +kernel
theorem dX0_yieldUnder_60 : decode cX0_yieldUnder 60 = .ok (.iload_n 3, 1) := by decide +kernel
theorem dX0_yieldUnder_61 : decode cX0_yieldUnder 61 = .ok (.iload 7, 2) := by decide +kernel
theorem dX0_yieldUnder_63 : decode cX0_yieldUnder 63 = .ok (.iload 6, 2) := by decide +kernel
theorem dX0_yieldUnder_65 : decode cX0_yieldUnder 65 = .ok (.invokestatic 83, 3) := by decide +kernel
theorem dX0_yieldUnder_68 : decode cX0_yieldUnder 68 = .ok (.iload 7, 2) := by decide +kernel
theorem dX0_yieldUnder_70 : decode cX0_yieldUnder 70 = .ok (.isub, 1) := by decide +kernel
theorem dX0_yieldUnder_71 : decode cX0_yieldUnder 71 = .ok (.invokestatic 89, 3) := by decide +kernel
theorem dX0_yieldUnder_74 : decode cX0_yieldUnder 74 = .ok (.iadd, 1) := by decide +kernel
theorem dX0_yieldUnder_75 : decode cX0_yieldUnder 75 = .ok (.istore_n 3, 1) := by decide +kernel
theorem dX0_yieldUnder_76 : decode cX0_yieldUnder 76 = .ok (.iload 4, 2) := by decide +kernel
theorem dX0_yieldUnder_78 : decode cX0_yieldUnder 78 = .ok (.iload 6, 2) := by decide +kernel
theorem dX0_yieldUnder_80 : decode cX0_yieldUnder 80 = .ok (.ior, 1) := by decide +kernel
theorem dX0_yieldUnder_81 : decode cX0_yieldUnder 81 = .ok (.istore 4, 2) := by decide +kernel
theorem dX0_yieldUnder_83 : decode cX0_yieldUnder 83 = .ok (.iinc 5 1, 3) := by decide +kernel
theorem dX0_yieldUnder_86 : decode cX0_yieldUnder 86 = .ok (.goto (-68), 3) := by decide +kernel
theorem dX0_yieldUnder_89 : decode cX0_yieldUnder 89 = .ok (.iconst 3, 1) := by decide +kernel
theorem dX0_yieldUnder_90 : decode cX0_yieldUnder 90 = .ok (.iload_n 3, 1) := by decide +kernel
theorem dX0_yieldUnder_91 : decode cX0_yieldUnder 91 = .ok (.imul, 1) := by decide +kernel
theorem dX0_yieldUnder_92 : decode cX0_yieldUnder 92 = .ok (.ireturn, 1) := by decide +kernel
theorem dX0_partedBy_0 : decode cX0_partedBy 0 = .ok (.iconst 0, 1) := by decide +kernel
theorem dX0_partedBy_1 : decode cX0_partedBy 1 = .ok (.istore_n 3, 1) := by decide +kernel
theorem dX0_partedBy_2 : decode cX0_partedBy 2 = .ok (.iconst 0, 1) := by decide +kernel
theorem dX0_partedBy_3 : decode cX0_partedBy 3 = .ok (.istore 4, 2) := by decide +kernel
theorem dX0_partedBy_5 : decode cX0_partedBy 5 = .ok (.iload 4, 2) := by decide +kernel
theorem dX0_partedBy_7 : decode cX0_partedBy 7 = .ok (.aload_n 0, 1) := by decide +kernel
theorem dX0_partedBy_8 : decode cX0_partedBy 8 = .ok (.getfield 53, 3) := by decide +kernel
theorem dX0_partedBy_11 : decode cX0_partedBy 11 = .ok (.if_icmp .ge 41, 3) := by decide +kernel
theorem dX0_partedBy_14 : decode cX0_partedBy 14 = .ok (.aload_n 0, 1) := by decide +kernel
theorem dX0_partedBy_15 : decode cX0_partedBy 15 = .ok (.getfield 27, 3) := by decide +kernel
theorem dX0_partedBy_18 : decode cX0_partedBy 18 = .ok (.iload 4, 2) := by decide +kernel
theorem dX0_partedBy_20 : decode cX0_partedBy 20 = .ok (.iaload, 1) := by decide +kernel
theorem dX0_partedBy_21 : decode cX0_partedBy 21 = .ok (.iload_n 1, 1) := by decide +kernel
theorem dX0_partedBy_22 : decode cX0_partedBy 22 = .ok (.ishr, 1) := by decide +kernel
theorem dX0_partedBy_23 : decode cX0_partedBy 23 = .ok (.iconst 1, 1) := by decide +kernel
theorem dX0_partedBy_24 : decode cX0_partedBy 24 = .ok (.iand, 1) := by decide +kernel
theorem dX0_partedBy_25 : decode cX0_partedBy 25 = .ok (.aload_n 0, 1) := by decide +kernel
theorem dX0_partedBy_26 : decode cX0_partedBy 26 = .ok (.getfield 27, 3) := by decide +kernel
theorem dX0_partedBy_29 : decode cX0_partedBy 29 = .ok (.iload 4, 2) := by decide +kernel
theorem dX0_partedBy_31 : decode cX0_partedBy 31 = .ok (.iaload, 1) := by decide +kernel
theorem dX0_partedBy_32 : decode cX0_partedBy 32 = .ok (.iload_n 2, 1) := by decide +kernel
theorem dX0_partedBy_33 : decode cX0_partedBy 33 = .ok (.ishr, 1) := by decide +kernel
theorem dX0_partedBy_34 : decode cX0_partedBy 34 = .ok (.iconst 1, 1) := by decide +kernel
theorem dX0_partedBy_35 : decode cX0_partedBy 35 = .ok (.iand, 1) := by decide +kernel
theorem dX0_partedBy_36 : decode cX0_partedBy 36 = .ok (.if_icmp .eq 10, 3) := by decide +kernel
theorem dX0_partedBy_39 : decode cX0_partedBy 39 = .ok (.iload_n 3, 1) := by decide +kernel
theorem dX0_partedBy_40 : decode cX0_partedBy 40 = .ok (.iconst 1, 1) := by decide +kernel
theorem dX0_partedBy_41 : decode cX0_partedBy 41 = .ok (.iload 4, 2) := by decide +kernel
theorem dX0_partedBy_43 : decode cX0_partedBy 43 = .ok (.ishl, 1) := by decide +kernel
theorem dX0_partedBy_44 : decode cX0_partedBy 44 = .ok (.ior, 1) := by decide +kernel
theorem dX0_partedBy_45 : decode cX0_partedBy 45 = .ok (.istore_n 3, 1) := by decide +kernel
theorem dX0_partedBy_46 : decode cX0_partedBy 46 = .ok (.iinc 4 1, 3) := by decide +kernel
theorem dX0_partedBy_49 : decode cX0_partedBy 49 = .ok (.goto (-44), 3) := by decide +kernel
theorem dX0_partedBy_52 : decode cX0_partedBy 52 = .ok (.iload_n 3, 1) := by decide +kernel
theorem dX0_partedBy_53 : decode cX0_partedBy 53 = .ok (.ireturn, 1) := by decide +kernel
theorem dX0_isPartedWhole_0 : decode cX0_isPartedWhole 0 = .ok (.iconst 0, 1) := by decide +kernel
theorem dX0_isPartedWhole_1 : decode cX0_isPartedWhole 1 = .ok (.istore_n 3, 1) := by decide +kernel
theorem dX0_isPartedWhole_2 : decode cX0_isPartedWhole 2 = .ok (.iload_n 3, 1) := by decide +kernel
theorem dX0_isPartedWhole_3 : decode cX0_isPartedWhole 3 = .ok (.aload_n 0, 1) := by decide +kernel
theorem dX0_isPartedWhole_4 : decode cX0_isPartedWhole 4 = .ok (.getfield 50, 3) := by decide +kernel
theorem dX0_isPartedWhole_7 : decode cX0_isPartedWhole 7 = .ok (.if_icmp .ge 37, 3) := by decide +kernel
theorem dX0_isPartedWhole_10 : decode cX0_isPartedWhole 10 = .ok (.aload_n 0, 1) := by decide +kernel
theorem dX0_isPartedWhole_11 : decode cX0_isPartedWhole 11 = .ok (.iload_n 2, 1) := by decide +kernel
theorem dX0_isPartedWhole_12 : decode cX0_isPartedWhole 12 = .ok (.iload_n 3, 1) := by decide +kernel
theorem dX0_isPartedWhole_13 : decode cX0_isPartedWhole 13 = .ok (.invokevirtual 79, 3) := by decide +kernel
theorem dX0_isPartedWhole_16 : decode cX0_isPartedWhole 16 = .ok (.iload_n 1, 1) := by decide +kernel
theorem dX0_isPartedWhole_17 : decode cX0_isPartedWhole 17 = .ok (.iand, 1) := by decide +kernel
theorem dX0_isPartedWhole_18 : decode cX0_isPartedWhole 18 = .ok (.istore 4, 2) := by decide +kernel
theorem dX0_isPartedWhole_20 : decode cX0_isPartedWhole 20 = .ok (.iload_n 1, 1) := by decide +kernel
theorem dX0_isPartedWhole_21 : decode cX0_isPartedWhole 21 = .ok (.iconst 1, 1) := by decide +kernel
theorem dX0_isPartedWhole_22 : decode cX0_isPartedWhole 22 = .ok (.iload_n 3, 1) := by decide +kernel
theorem dX0_isPartedWhole_23 : decode cX0_isPartedWhole 23 = .ok (.ishl, 1) := by decide +kernel
theorem dX0_isPartedWhole_24 : decode cX0_isPartedWhole 24 = .ok (.iand, 1) := by decide +kernel
theorem dX0_isPartedWhole_25 : decode cX0_isPartedWhole 25 = .ok (.ifCond .eq 13, 3) := by decide +kernel
theorem dX0_isPartedWhole_28 : decode cX0_isPartedWhole 28 = .ok (.iload 4, 2) := by decide +kernel
theorem dX0_isPartedWhole_30 : decode cX0_isPartedWhole 30 = .ok (.iconst 1, 1) := by decide +kernel
theorem dX0_isPartedWhole_31 : decode cX0_isPartedWhole 31 = .ok (.iload_n 3, 1) := by decide +kernel
theorem dX0_isPartedWhole_32 : decode cX0_isPartedWhole 32 = .ok (.ishl, 1) := by decide +kernel
theorem dX0_isPartedWhole_33 : decode cX0_isPartedWhole 33 = .ok (.if_icmp .eq 5, 3) := by decide +kernel
theorem dX0_isPartedWhole_36 : decode cX0_isPartedWhole 36 = .ok (.iconst 0, 1) := by decide +kernel
theorem dX0_isPartedWhole_37 : decode cX0_isPartedWhole 37 = .ok (.ireturn, 1) := by decide +kernel
theorem dX0_isPartedWhole_38 : decode cX0_isPartedWhole 38 = .ok (.iinc 3 1, 3) := by decide +kernel
theorem dX0_isPartedWhole_41 : decode cX0_isPartedWhole 41 = .ok (.goto (-39), 3) := by decide +kernel
theorem dX0_isPartedWhole_44 : decode cX0_isPartedWhole 44 = .ok (.iconst 1, 1) := by decide +kernel
theorem dX0_isPartedWhole_45 : decode cX0_isPartedWhole 45 = .ok (.ireturn, 1) := by decide +kernel
theorem dX0_putForward_0 : decode cX0_putForward 0 = .ok (.aload_n 0, 1) := by decide +kernel
theorem dX0_putForward_1 : decode cX0_putForward 1 = .ok (.aload_n 0, 1) := by decide +kernel
theorem dX0_putForward_2 : decode cX0_putForward 2 = .ok (.getfield 62, 3) := by decide +kernel
theorem dX0_putForward_5 : decode cX0_putForward 5 = .ok (.iload_n 1, 1) := by decide +kernel
theorem dX0_putForward_6 : decode cX0_putForward 6 = .ok (.invokevirtual 94, 3) := by decide +kernel
theorem dX0_putForward_9 : decode cX0_putForward 9 = .ok (.istore_n 2, 1) := by decide +kernel
theorem dX0_putForward_10 : decode cX0_putForward 10 = .ok (.aload_n 0, 1) := by decide +kernel
theorem dX0_putForward_11 : decode cX0_putForward 11 = .ok (.getfield 21, 3) := by decide +kernel
theorem dX0_putForward_14 : decode cX0_putForward 14 = .ok (.iload_n 1, 1) := by decide +kernel
theorem dX0_putForward_15 : decode cX0_putForward 15 = .ok (.iaload, 1) := by decide +kernel
theorem dX0_putForward_16 : decode cX0_putForward 16 = .ok (.istore_n 3, 1) := by decide +kernel
theorem dX0_putForward_17 : decode cX0_putForward 17 = .ok (.aload_n 0, 1) := by decide +kernel
theorem dX0_putForward_18 : decode cX0_putForward 18 = .ok (.dup, 1) := by decide +kernel
theorem dX0_putForward_19 : decode cX0_putForward 19 = .ok (.getfield 62, 3) := by decide +kernel
theorem dX0_putForward_22 : decode cX0_putForward 22 = .ok (.iconst 1, 1) := by decide +kernel
theorem dX0_putForward_23 : decode cX0_putForward 23 = .ok (.iload_n 1, 1) := by decide +kernel
theorem dX0_putForward_24 : decode cX0_putForward 24 = .ok (.ishl, 1) := by decide +kernel
theorem dX0_putForward_25 : decode cX0_putForward 25 = .ok (.ior, 1) := by decide +kernel
theorem dX0_putForward_26 : decode cX0_putForward 26 = .ok (.putfield 62, 3) := by decide +kernel
theorem dX0_putForward_29 : decode cX0_putForward 29 = .ok (.aload_n 0, 1) := by decide +kernel
theorem dX0_putForward_30 : decode cX0_putForward 30 = .ok (.getfield 9, 3) := by decide +kernel
theorem dX0_putForward_33 : decode cX0_putForward 33 = .ok (.iload_n 3, 1) := by decide +kernel
theorem dX0_putForward_34 : decode cX0_putForward 34 = .ok (.sipush 9999, 3) := by decide +kernel
theorem dX0_putForward_37 : decode cX0_putForward 37 = .ok (.aload_n 0, 1) := by decide +kernel
theorem dX0_putForward_38 : decode cX0_putForward 38 = .ok (.getfield 9, 3) := by decide +kernel
theorem dX0_putForward_41 : decode cX0_putForward 41 = .ok (.iload_n 3, 1) := by decide +kernel
theorem dX0_putForward_42 : decode cX0_putForward 42 = .ok (.iaload, 1) := by decide +kernel
theorem dX0_putForward_43 : decode cX0_putForward 43 = .ok (.iload_n 2, 1) := by decide +kernel
theorem dX0_putForward_44 : decode cX0_putForward 44 = .ok (.iadd, 1) := by decide +kernel
theorem dX0_putForward_45 : decode cX0_putForward 45 = .ok (.invokestatic 89, 3) := by decide +kernel
theorem dX0_putForward_48 : decode cX0_putForward 48 = .ok (.iastore, 1) := by decide +kernel
theorem dX0_putForward_49 : decode cX0_putForward 49 = .ok (.iload_n 2, 1) := by decide +kernel
theorem dX0_putForward_50 : decode cX0_putForward 50 = .ok (.ireturn, 1) := by decide +kernel
theorem dX0_harvest_0 : decode cX0_harvest 0 = .ok (.aload_n 0, 1) := by decide +kernel
theorem dX0_harvest_1 : decode cX0_harvest 1 = .ok (.getfield 34, 3) := by decide +kernel
theorem dX0_harvest_4 : decode cX0_harvest 4 = .ok (.iload_n 1, 1) := by decide +kernel
theorem dX0_harvest_5 : decode cX0_harvest 5 = .ok (.iaload, 1) := by decide +kernel
theorem dX0_harvest_6 : decode cX0_harvest 6 = .ok (.istore_n 2, 1) := by decide +kernel
theorem dX0_harvest_7 : decode cX0_harvest 7 = .ok (.aload_n 0, 1) := by decide +kernel
theorem dX0_harvest_8 : decode cX0_harvest 8 = .ok (.getfield 9, 3) := by decide +kernel
theorem dX0_harvest_11 : decode cX0_harvest 11 = .ok (.iload_n 2, 1) := by decide +kernel
theorem dX0_harvest_12 : decode cX0_harvest 12 = .ok (.iaload, 1) := by decide +kernel
theorem dX0_harvest_13 : decode cX0_harvest 13 = .ok (.istore_n 3, 1) := by decide +kernel
theorem dX0_harvest_14 : decode cX0_harvest 14 = .ok (.aload_n 0, 1) := by decide +kernel
theorem dX0_harvest_15 : decode cX0_harvest 15 = .ok (.getfield 9, 3) := by decide +kernel
theorem dX0_harvest_18 : decode cX0_harvest 18 = .ok (.iload_n 2, 1) := by decide +kernel
theorem dX0_harvest_19 : decode cX0_harvest 19 = .ok (.iconst 0, 1) := by decide +kernel
theorem dX0_harvest_20 : decode cX0_harvest 20 = .ok (.iastore, 1) := by decide +kernel
theorem dX0_harvest_21 : decode cX0_harvest 21 = .ok (.aload_n 0, 1) := by decide +kernel
theorem dX0_harvest_22 : decode cX0_harvest 22 = .ok (.getfield 37, 3) := by decide +kernel
theorem dX0_harvest_25 : decode cX0_harvest 25 = .ok (.iload_n 1, 1) := by decide +kernel
theorem dX0_harvest_26 : decode cX0_harvest 26 = .ok (.sipush 9999, 3) := by decide +kernel
theorem dX0_harvest_29 : decode cX0_harvest 29 = .ok (.aload_n 0, 1) := by decide +kernel
theorem dX0_harvest_30 : decode cX0_harvest 30 = .ok (.getfield 37, 3) := by decide +kernel
theorem dX0_harvest_33 : decode cX0_harvest 33 = .ok (.iload_n 1, 1) := by decide +kernel
theorem dX0_harvest_34 : decode cX0_harvest 34 = .ok (.iaload, 1) := by decide +kernel
theorem dX0_harvest_35 : decode cX0_harvest 35 = .ok (.iload_n 3, 1) := by decide +kernel
theorem dX0_harvest_36 : decode cX0_harvest 36 = .ok (.iadd, 1) := by decide +kernel
theorem dX0_harvest_37 : decode cX0_harvest 37 = .ok (.invokestatic 89, 3) := by decide +kernel
theorem dX0_harvest_40 : decode cX0_harvest 40 = .ok (.iastore, 1) := by decide +kernel
theorem dX0_harvest_41 : decode cX0_harvest 41 = .ok (.iload_n 3, 1) := by decide +kernel
theorem dX0_harvest_42 : decode cX0_harvest 42 = .ok (.ireturn, 1) := by decide +kernel
theorem dX0_passNights_0 : decode cX0_passNights 0 = .ok (.aload_n 0, 1) := by decide +kernel
theorem dX0_passNights_1 : decode cX0_passNights 1 = .ok (.getfield 59, 3) := by decide +kernel
theorem dX0_passNights_4 : decode cX0_passNights 4 = .ok (.iload_n 1, 1) := by decide +kernel
theorem dX0_passNights_5 : decode cX0_passNights 5 = .ok (.iadd, 1) := by decide +kernel
theorem dX0_passNights_6 : decode cX0_passNights 6 = .ok (.sipush 9999, 3) := by decide +kernel
theorem dX0_passNights_9 : decode cX0_passNights 9 = .ok (.if_icmp .le 5, 3) := by decide +kernel
theorem dX0_passNights_12 : decode cX0_passNights 12 = .ok (.iconst 0, 1) := by decide +kernel
theorem dX0_passNights_13 : decode cX0_passNights 13 = .ok (.ireturn, 1) := by decide +kernel
theorem dX0_passNights_14 : decode cX0_passNights 14 = .ok (.aload_n 0, 1) := by decide +kernel
theorem dX0_passNights_15 : decode cX0_passNights 15 = .ok (.dup, 1) := by decide +kernel
theorem dX0_passNights_16 : decode cX0_passNights 16 = .ok (.getfield 59, 3) := by decide +kernel
theorem dX0_passNights_19 : decode cX0_passNights 19 = .ok (.iload_n 1, 1) := by decide +kernel
theorem dX0_passNights_20 : decode cX0_passNights 20 = .ok (.iadd, 1) := by decide +kernel
theorem dX0_passNights_21 : decode cX0_passNights 21 = .ok (.putfield 59, 3) := by decide +kernel
theorem dX0_passNights_24 : decode cX0_passNights 24 = .ok (.iconst 0, 1) := by decide +kernel
theorem dX0_passNights_25 : decode cX0_passNights 25 = .ok (.istore_n 2, 1) := by decide +kernel
theorem dX0_passNights_26 : decode cX0_passNights 26 = .ok (.iload_n 2, 1) := by decide +kernel
theorem dX0_passNights_27 : decode cX0_passNights 27 = .ok (.aload_n 0, 1) := by decide +kernel
theorem dX0_passNights_28 : decode cX0_passNights 28 = .ok (.getfield 47, 3) := by decide +kernel
theorem dX0_passNights_31 : decode cX0_passNights 31 = .ok (.if_icmp .ge 49, 3) := by decide +kernel
theorem dX0_passNights_34 : decode cX0_passNights 34 = .ok (.iload_n 1, 1) := by decide +kernel
theorem dX0_passNights_35 : decode cX0_passNights 35 = .ok (.aload_n 0, 1) := by decide +kernel
theorem dX0_passNights_36 : decode cX0_passNights 36 = .ok (.getfield 9, 3) := by decide +kernel
theorem dX0_passNights_39 : decode cX0_passNights 39 = .ok (.iload_n 2, 1) := by decide +kernel
theorem dX0_passNights_40 : decode cX0_passNights 40 = .ok (.iaload, 1) := by decide +kernel
theorem dX0_passNights_41 : decode cX0_passNights 41 = .ok (.invokestatic 89, 3) := by decide +kernel
theorem dX0_passNights_44 : decode cX0_passNights 44 = .ok (.istore_n 3, 1) := by decide +kernel
theorem dX0_passNights_45 : decode cX0_passNights 45 = .ok (.aload_n 0, 1) := by decide +kernel
theorem dX0_passNights_46 : decode cX0_passNights 46 = .ok (.getfield 9, 3) := by decide +kernel
theorem dX0_passNights_49 : decode cX0_passNights 49 = .ok (.iload_n 2, 1) := by decide +kernel
theorem dX0_passNights_50 : decode cX0_passNights 50 = .ok (.dup2, 1) := by decide +kernel
theorem dX0_passNights_51 : decode cX0_passNights 51 = .ok (.iaload, 1) := by decide +kernel
theorem dX0_passNights_52 : decode cX0_passNights 52 = .ok (.iload_n 3, 1) := by decide +kernel
theorem dX0_passNights_53 : decode cX0_passNights 53 = .ok (.isub, 1) := by decide +kernel
theorem dX0_passNights_54 : decode cX0_passNights 54 = .ok (.iastore, 1) := by decide +kernel
theorem dX0_passNights_55 : decode cX0_passNights 55 = .ok (.aload_n 0, 1) := by decide +kernel
theorem dX0_passNights_56 : decode cX0_passNights 56 = .ok (.getfield 15, 3) := by decide +kernel
theorem dX0_passNights_59 : decode cX0_passNights 59 = .ok (.iload_n 2, 1) := by decide +kernel
theorem dX0_passNights_60 : decode cX0_passNights 60 = .ok (.bipush 99, 2) := by decide +kernel
theorem dX0_passNights_62 : decode cX0_passNights 62 = .ok (.aload_n 0, 1) := by decide +kernel
theorem dX0_passNights_63 : decode cX0_passNights 63 = .ok (.getfield 15, 3) := by decide +kernel
theorem dX0_passNights_66 : decode cX0_passNights 66 = .ok (.iload_n 2, 1) := by decide +kernel
theorem dX0_passNights_67 : decode cX0_passNights 67 = .ok (.iaload, 1) := by decide +kernel
theorem dX0_passNights_68 : decode cX0_passNights 68 = .ok (.iload_n 3, 1) := by decide +kernel
theorem dX0_passNights_69 : decode cX0_passNights 69 = .ok (.iadd, 1) := by decide +kernel
theorem dX0_passNights_70 : decode cX0_passNights 70 = .ok (.invokestatic 89, 3) := by decide +kernel
theorem dX0_passNights_73 : decode cX0_passNights 73 = .ok (.iastore, 1) := by decide +kernel
theorem dX0_passNights_74 : decode cX0_passNights 74 = .ok (.iinc 2 1, 3) := by decide +kernel
theorem dX0_passNights_77 : decode cX0_passNights 77 = .ok (.goto (-51), 3) := by decide +kernel
theorem dX0_passNights_80 : decode cX0_passNights 80 = .ok (.iconst 1, 1) := by decide +kernel
theorem dX0_passNights_81 : decode cX0_passNights 81 = .ok (.ireturn, 1) := by decide +kernel
theorem dX0_reapedWithin_0 : decode cX0_reapedWithin 0 = .ok (.iconst 0, 1) := by decide +kernel
theorem dX0_reapedWithin_1 : decode cX0_reapedWithin 1 = .ok (.istore_n 3, 1) := by decide +kernel
theorem dX0_reapedWithin_2 : decode cX0_reapedWithin 2 = .ok (.iconst 0, 1) := by decide +kernel
theorem dX0_reapedWithin_3 : decode cX0_reapedWithin 3 = .ok (.istore 4, 2) := by decide +kernel
theorem dX0_reapedWithin_5 : decode cX0_reapedWithin 5 = .ok (.iload 4, 2) := by decide +kernel
theorem dX0_reapedWithin_7 : decode cX0_reapedWithin 7 = .ok (.iload_n 1, 1) := by decide +kernel
theorem dX0_reapedWithin_8 : decode cX0_reapedWithin 8 = .ok (.if_icmp .gt 82, 3) := by decide +kernel
theorem dX0_reapedWithin_11 : decode cX0_reapedWithin 11 = .ok (.iload_n 1, 1) := by decide +kernel
theorem dX0_reapedWithin_12 : decode cX0_reapedWithin 12 = .ok (.istore 5, 2) := by decide +kernel
theorem dX0_reapedWithin_14 : decode cX0_reapedWithin 14 = .ok (.iload 5, 2) := by decide +kernel
theorem dX0_reapedWithin_16 : decode cX0_reapedWithin 16 = .ok (.aload_n 0, 1) := by decide +kernel
theorem dX0_reapedWithin_17 : decode cX0_reapedWithin 17 = .ok (.getfield 47, 3) := by decide +kernel
theorem dX0_reapedWithin_20 : decode cX0_reapedWithin 20 = .ok (.if_icmp .ge 64, 3) := by decide +kernel
theorem dX0_reapedWithin_23 : decode cX0_reapedWithin 23 = .ok (.iload_n 1, 1) := by decide +kernel
theorem dX0_reapedWithin_24 : decode cX0_reapedWithin 24 = .ok (.iload 4, 2) := by decide +kernel
theorem dX0_reapedWithin_26 : decode cX0_reapedWithin 26 = .ok (.isub, 1) := by decide +kernel
theorem dX0_reapedWithin_27 : decode cX0_reapedWithin 27 = .ok (.istore 6, 2) := by decide +kernel
theorem dX0_reapedWithin_29 : decode cX0_reapedWithin 29 = .ok (.iload 5, 2) := by decide +kernel
theorem dX0_reapedWithin_31 : decode cX0_reapedWithin 31 = .ok (.iload_n 1, 1) := by decide +kernel
theorem dX0_reapedWithin_32 : decode cX0_reapedWithin 32 = .ok (.isub, 1) := by decide +kernel
theorem dX0_reapedWithin_33 : decode cX0_reapedWithin 33 = .ok (.istore 7, 2) := by decide +kernel
theorem dX0_reapedWithin_35 : decode cX0_reapedWithin 35 = .ok (.iload 6, 2) := by decide +kernel
theorem dX0_reapedWithin_37 : decode cX0_reapedWithin 37 = .ok (.iload 7, 2) := by decide +kernel
theorem dX0_reapedWithin_39 : decode cX0_reapedWithin 39 = .ok (.iadd, 1) := by decide +kernel
theorem dX0_reapedWithin_40 : decode cX0_reapedWithin 40 = .ok (.iload 6, 2) := by decide +kernel
theorem dX0_reapedWithin_42 : decode cX0_reapedWithin 42 = .ok (.iload 7, 2) := by decide +kernel
theorem dX0_reapedWithin_44 : decode cX0_reapedWithin 44 = .ok (.invokestatic 89, 3) := by decide +kernel
theorem dX0_reapedWithin_47 : decode cX0_reapedWithin 47 = .ok (.iadd, 1) := by decide +kernel
theorem dX0_reapedWithin_48 : decode cX0_reapedWithin 48 = .ok (.iload_n 2, 1) := by decide +kernel
theorem dX0_reapedWithin_49 : decode cX0_reapedWithin 49 = .ok (.if_icmp .gt 29, 3) := by decide +kernel
theorem dX0_reapedWithin_52 : decode cX0_reapedWithin 52 = .ok (.iload_n 3, 1) := by decide +kernel
theorem dX0_reapedWithin_53 : decode cX0_reapedWithin 53 = .ok (.aload_n 0, 1) := by decide +kernel
theorem dX0_reapedWithin_54 : decode cX0_reapedWithin 54 = .ok (.getfield 9, 3) := by decide +kernel
theorem dX0_reapedWithin_57 : decode cX0_reapedWithin 57 = .ok (.iload 5, 2) := by decide +kernel
theorem dX0_reapedWithin_59 : decode cX0_reapedWithin 59 = .ok (.iconst 1, 1) := by decide +kernel
theorem dX0_reapedWithin_60 : decode cX0_reapedWithin 60 = .ok (.iadd, 1) := by decide +kernel
theorem dX0_reapedWithin_61 : decode cX0_reapedWithin 61 = .ok (.invokestatic 75, 3) := by decide +kernel
theorem dX0_reapedWithin_64 : decode cX0_reapedWithin 64 = .ok (.aload_n 0, 1) := by decide +kernel
theorem dX0_reapedWithin_65 : decode cX0_reapedWithin 65 = .ok (.getfield 9, 3) := by decide +kernel
theorem dX0_reapedWithin_68 : decode cX0_reapedWithin 68 = .ok (.iload 4, 2) := by decide +kernel
theorem dX0_reapedWithin_70 : decode cX0_reapedWithin 70 = .ok (.invokestatic 75, 3) := by decide +kernel
theorem dX0_reapedWithin_73 : decode cX0_reapedWithin 73 = .ok (.isub, 1) := by decide +kernel
theorem dX0_reapedWithin_74 : decode cX0_reapedWithin 74 = .ok (.invokestatic 97, 3) := by decide +kernel
theorem dX0_reapedWithin_77 : decode cX0_reapedWithin 77 = .ok (.istore_n 3, 1) := by decide +kernel
theorem dX0_reapedWithin_78 : decode cX0_reapedWithin 78 = .ok (.iinc 5 1, 3) := by decide +kernel
theorem dX0_reapedWithin_81 : decode cX0_reapedWithin 81 = .ok (.goto (-67), 3) := by decide +kernel
theorem dX0_reapedWithin_84 : decode cX0_reapedWithin 84 = .ok (.iinc 4 1, 3) := by decide +kernel
theorem dX0_reapedWithin_87 : decode cX0_reapedWithin 87 = .ok (.goto (-82), 3) := by decide +kernel
theorem dX0_reapedWithin_90 : decode cX0_reapedWithin 90 = .ok (.iload_n 3, 1) := by decide +kernel
theorem dX0_reapedWithin_91 : decode cX0_reapedWithin 91 = .ok (.ireturn, 1) := by decide +kernel
theorem dX1_init_0 : decode cX1_init 0 = .ok (.aload_n 0, 1) := by decide +kernel
theorem dX1_init_1 : decode cX1_init 1 = .ok (.invokespecial 3, 3) := by decide +kernel
theorem dX1_init_4 : decode cX1_init 4 = .ok (.aload_n 0, 1) := by decide +kernel
theorem dX1_init_5 : decode cX1_init 5 = .ok (.bipush 8, 2) := by decide +kernel
theorem dX1_init_7 : decode cX1_init 7 = .ok (.newarray .long, 2) := by decide +kernel
theorem dX1_init_9 : decode cX1_init 9 = .ok (.putfield 9, 3) := by decide +kernel
theorem dX1_init_12 : decode cX1_init 12 = .ok (.aload_n 0, 1) := by decide +kernel
theorem dX1_init_13 : decode cX1_init 13 = .ok (.aload_n 1, 1) := by decide +kernel
theorem dX1_init_14 : decode cX1_init 14 = .ok (.putfield 15, 3) := by decide +kernel
theorem dX1_init_17 : decode cX1_init 17 = .ok (.aload_n 0, 1) := by decide +kernel
theorem dX1_init_18 : decode cX1_init 18 = .ok (.aload_n 2, 1) := by decide +kernel
theorem dX1_init_19 : decode cX1_init 19 = .ok (.putfield 19, 3) := by decide +kernel
theorem dX1_init_22 : decode cX1_init 22 = .ok (.return_, 1) := by decide +kernel
theorem dX1_takeText_0 : decode cX1_takeText 0 = .ok (.aload_n 0, 1) := by decide +kernel
theorem dX1_takeText_1 : decode cX1_takeText 1 = .ok (.getfield 19, 3) := by decide +kernel
theorem dX1_takeText_4 : decode cX1_takeText 4 = .ok (.invokevirtual 23, 3) := by decide +kernel
theorem dX1_takeText_7 : decode cX1_takeText 7 = .ok (.aload_n 0, 1) := by decide +kernel
theorem dX1_takeText_8 : decode cX1_takeText 8 = .ok (.iconst 0, 1) := by decide +kernel
theorem dX1_takeText_9 : decode cX1_takeText 9 = .ok (.putfield 28, 3) := by decide +kernel
theorem dX1_takeText_12 : decode cX1_takeText 12 = .ok (.aload_n 0, 1) := by decide +kernel
theorem dX1_takeText_13 : decode cX1_takeText 13 = .ok (.getfield 15, 3) := by decide +kernel
theorem dX1_takeText_16 : decode cX1_takeText 16 = .ok (.iload_n 1, 1) := by decide +kernel
theorem dX1_takeText_17 : decode cX1_takeText 17 = .ok (.invokevirtual 32, 3) := by decide +kernel
theorem dX1_takeText_20 : decode cX1_takeText 20 = .ok (.iconst 0, 1) := by decide +kernel
theorem dX1_takeText_21 : decode cX1_takeText 21 = .ok (.istore_n 2, 1) := by decide +kernel
theorem dX1_takeText_22 : decode cX1_takeText 22 = .ok (.iload_n 2, 1) := by decide +kernel
theorem dX1_takeText_23 : decode cX1_takeText 23 = .ok (.iload_n 1, 1) := by decide +kernel
theorem dX1_takeText_24 : decode cX1_takeText 24 = .ok (.if_icmp .gt 141, 3) := by decide +kernel
theorem dX1_takeText_27 : decode cX1_takeText 27 = .ok (.aload_n 0, 1) := by decide +kernel
theorem dX1_takeText_28 : decode cX1_takeText 28 = .ok (.getfield 15, 3) := by decide +kernel
theorem dX1_takeText_31 : decode cX1_takeText 31 = .ok (.invokevirtual 38, 3) := by decide +kernel
theorem dX1_takeText_34 : decode cX1_takeText 34 = .ok (.ifCond .eq 5, 3) := by decide +kernel
theorem dX1_takeText_37 : decode cX1_takeText 37 = .ok (.iconst 1, 1) := by decide +kernel
theorem dX1_takeText_38 : decode cX1_takeText 38 = .ok (.ireturn, 1) := by decide +kernel
theorem dX1_takeText_39 : decode cX1_takeText 39 = .ok (.aload_n 0, 1) := by decide +kernel
theorem dX1_takeText_40 : decode cX1_takeText 40 = .ok (.getfield 15, 3) := by decide +kernel
theorem dX1_takeText_43 : decode cX1_takeText 43 = .ok (.invokevirtual 42, 3) := by decide +kernel
theorem dX1_takeText_46 : decode cX1_takeText 46 = .ok (.tableswitch 98 0 10 #[58, 66, 98, 98, 74, 98, 82, 98, 98, 98, 90], 58) := by decide +kernel
theorem dX1_takeText_104 : decode cX1_takeText 104 = .ok (.aload_n 0, 1) := by decide +kernel
theorem dX1_takeText_105 : decode cX1_takeText 105 = .ok (.invokevirtual 46, 3) := by decide +kernel
theorem dX1_takeText_108 : decode cX1_takeText 108 = .ok (.istore_n 3, 1) := by decide +kernel
theorem dX1_takeText_109 : decode cX1_takeText 109 = .ok (.goto 44, 3) := by decide +kernel
theorem dX1_takeText_112 : decode cX1_takeText 112 = .ok (.aload_n 0, 1) := by decide +kernel
theorem dX1_takeText_113 : decode cX1_takeText 113 = .ok (.invokevirtual 49, 3) := by decide +kernel
theorem dX1_takeText_116 : decode cX1_takeText 116 = .ok (.istore_n 3, 1) := by decide +kernel
theorem dX1_takeText_117 : decode cX1_takeText 117 = .ok (.goto 36, 3) := by decide +kernel
theorem dX1_takeText_120 : decode cX1_takeText 120 = .ok (.aload_n 0, 1) := by decide +kernel
theorem dX1_takeText_121 : decode cX1_takeText 121 = .ok (.invokevirtual 52, 3) := by decide +kernel
theorem dX1_takeText_124 : decode cX1_takeText 124 = .ok (.istore_n 3, 1) := by decide +kernel
theorem dX1_takeText_125 : decode cX1_takeText 125 = .ok (.goto 28, 3) := by decide +kernel
theorem dX1_takeText_128 : decode cX1_takeText 128 = .ok (.aload_n 0, 1) := by decide +kernel
theorem dX1_takeText_129 : decode cX1_takeText 129 = .ok (.invokevirtual 55, 3) := by decide +kernel
theorem dX1_takeText_132 : decode cX1_takeText 132 = .ok (.istore_n 3, 1) := by decide +kernel
theorem dX1_takeText_133 : decode cX1_takeText 133 = .ok (.goto 20, 3) := by decide +kernel
theorem dX1_takeText_136 : decode cX1_takeText 136 = .ok (.aload_n 0, 1) := by decide +kernel
theorem dX1_takeText_137 : decode cX1_takeText 137 = .ok (.invokevirtual 58, 3) := by decide +kernel
theorem dX1_takeText_140 : decode cX1_takeText 140 = .ok (.istore_n 3, 1) := by decide +kernel
theorem dX1_takeText_141 : decode cX1_takeText 141 = .ok (.goto 12, 3) := by decide +kernel
theorem dX1_takeText_144 : decode cX1_takeText 144 = .ok (.aload_n 0, 1) := by decide +kernel
theorem dX1_takeText_145 : decode cX1_takeText 145 = .ok (.getfield 15, 3) := by decide +kernel
theorem dX1_takeText_148 : decode cX1_takeText 148 = .ok (.iconst 2, 1) := by decide +kernel
theorem dX1_takeText_149 : decode cX1_takeText 149 = .ok (.invokevirtual 61, 3) := by decide +kernel
theorem dX1_takeText_152 : decode cX1_takeText 152 = .ok (.istore_n 3, 1) := by decide +kernel
theorem dX1_takeText_153 : decode cX1_takeText 153 = .ok (.iload_n 3, 1) := by decide +kernel
theorem dX1_takeText_154 : decode cX1_takeText 154 = .ok (.ifCond .ne 5, 3) := by decide +kernel
theorem dX1_takeText_157 : decode cX1_takeText 157 = .ok (.iconst 0, 1) := by decide +kernel
theorem dX1_takeText_158 : decode cX1_takeText 158 = .ok (.ireturn, 1) := by decide +kernel
theorem dX1_takeText_159 : decode cX1_takeText 159 = .ok (.iinc 2 1, 3) := by decide +kernel
theorem dX1_takeText_162 : decode cX1_takeText 162 = .ok (.goto (-140), 3) := by decide +kernel
theorem dX1_takeText_165 : decode cX1_takeText 165 = .ok (.aload_n 0, 1) := by decide +kernel
theorem dX1_takeText_166 : decode cX1_takeText 166 = .ok (.getfield 15, 3) := by decide +kernel
theorem dX1_takeText_169 : decode cX1_takeText 169 = .ok (.iconst 2, 1) := by decide +kernel
theorem dX1_takeText_170 : decode cX1_takeText 170 = .ok (.invokevirtual 61, 3) := by decide +kernel
theorem dX1_takeText_173 : decode cX1_takeText 173 = .ok (.ireturn, 1) := by decide +kernel
theorem dX1_takeOdds_0 : decode cX1_takeOdds 0 = .ok (.aload_n 0, 1) := by decide +kernel
theorem dX1_takeOdds_1 : decode cX1_takeOdds 1 = .ok (.getfield 28, 3) := by decide +kernel
theorem dX1_takeOdds_4 : decode cX1_takeOdds 4 = .ok (.ifCond .eq 12, 3) := by decide +kernel
theorem dX1_takeOdds_7 : decode cX1_takeOdds 7 = .ok (.aload_n 0, 1) := by decide +kernel
theorem dX1_takeOdds_8 : decode cX1_takeOdds 8 = .ok (.getfield 15, 3) := by decide +kernel
theorem dX1_takeOdds_11 : decode cX1_takeOdds 11 = .ok (.iconst 5, 1) := by decide +kernel
theorem dX1_takeOdds_12 : decode cX1_takeOdds 12 = .ok (.invokevirtual 61, 3) := by decide +kernel
theorem dX1_takeOdds_15 : decode cX1_takeOdds 15 = .ok (.ireturn, 1) := by decide +kernel
theorem dX1_takeOdds_16 : decode cX1_takeOdds 16 = .ok (.aload_n 0, 1) := by decide +kernel
theorem dX1_takeOdds_17 : decode cX1_takeOdds 17 = .ok (.iconst 1, 1) := by decide +kernel
theorem dX1_takeOdds_18 : decode cX1_takeOdds 18 = .ok (.putfield 28, 3) := by decide +kernel
theorem dX1_takeOdds_21 : decode cX1_takeOdds 21 = .ok (.aload_n 0, 1) := by decide +kernel
theorem dX1_takeOdds_22 : decode cX1_takeOdds 22 = .ok (.getfield 15, 3) := by decide +kernel
theorem dX1_takeOdds_25 : decode cX1_takeOdds 25 = .ok (.invokevirtual 65, 3) := by decide +kernel
theorem dX1_takeOdds_28 : decode cX1_takeOdds 28 = .ok (.aload_n 0, 1) := by decide +kernel
theorem dX1_takeOdds_29 : decode cX1_takeOdds 29 = .ok (.getfield 15, 3) := by decide +kernel
theorem dX1_takeOdds_32 : decode cX1_takeOdds 32 = .ok (.iconst 0, 1) := by decide +kernel
theorem dX1_takeOdds_33 : decode cX1_takeOdds 33 = .ok (.bipush 16, 2) := by decide +kernel
theorem dX1_takeOdds_35 : decode cX1_takeOdds 35 = .ok (.invokevirtual 68, 3) := by decide +kernel
theorem dX1_takeOdds_38 : decode cX1_takeOdds 38 = .ok (.ifCond .ne 5, 3) := by decide +kernel
theorem dX1_takeOdds_41 : decode cX1_takeOdds 41 = .ok (.iconst 0, 1) := by decide +kernel
theorem dX1_takeOdds_42 : decode cX1_takeOdds 42 = .ok (.ireturn, 1) := by decide +kernel
theorem dX1_takeOdds_43 : decode cX1_takeOdds 43 = .ok (.aload_n 0, 1) := by decide +kernel
theorem dX1_takeOdds_44 : decode cX1_takeOdds 44 = .ok (.getfield 19, 3) := by decide +kernel
theorem dX1_takeOdds_47 : decode cX1_takeOdds 47 = .ok (.aload_n 0, 1) := by decide +kernel
theorem dX1_takeOdds_48 : decode cX1_takeOdds 48 = .ok (.getfield 15, 3) := by decide +kernel
theorem dX1_takeOdds_51 : decode cX1_takeOdds 51 = .ok (.getfield 72, 3) := by decide +kernel
theorem dX1_takeOdds_54 : decode cX1_takeOdds 54 = .ok (.putfield 76, 3) := by decide +kernel
theorem dX1_takeOdds_57 : decode cX1_takeOdds 57 = .ok (.aload_n 0, 1) := by decide +kernel
theorem dX1_takeOdds_58 : decode cX1_takeOdds 58 = .ok (.getfield 15, 3) := by decide +kernel
theorem dX1_takeOdds_61 : decode cX1_takeOdds 61 = .ok (.invokevirtual 79, 3) := by decide +kernel
theorem dX1_takeOdds_64 : decode cX1_takeOdds 64 = .ok (.ireturn, 1) := by decide +kernel
theorem dX1_takeBed_0 : decode cX1_takeBed 0 = .ok (.aload_n 0, 1) := by decide +kernel
theorem dX1_takeBed_1 : decode cX1_takeBed 1 = .ok (.getfield 19, 3) := by decide +kernel
theorem dX1_takeBed_4 : decode cX1_takeBed 4 = .ok (.getfield 82, 3) := by decide +kernel
theorem dX1_takeBed_7 : decode cX1_takeBed 7 = .ok (.bipush 6, 2) := by decide +kernel
theorem dX1_takeBed_9 : decode cX1_takeBed 9 = .ok (.if_icmp .lt 13, 3) := by decide +kernel
theorem dX1_takeBed_12 : decode cX1_takeBed 12 = .ok (.aload_n 0, 1) := by decide +kernel
theorem dX1_takeBed_13 : decode cX1_takeBed 13 = .ok (.getfield 15, 3) := by decide +kernel
theorem dX1_takeBed_16 : decode cX1_takeBed 16 = .ok (.bipush 6, 2) := by decide +kernel
theorem dX1_takeBed_18 : decode cX1_takeBed 18 = .ok (.invokevirtual 61, 3) := by decide +kernel
theorem dX1_takeBed_21 : decode cX1_takeBed 21 = .ok (.ireturn, 1) := by decide +kernel
theorem dX1_takeBed_22 : decode cX1_takeBed 22 = .ok (.aload_n 0, 1) := by decide +kernel
theorem dX1_takeBed_23 : decode cX1_takeBed 23 = .ok (.getfield 15, 3) := by decide +kernel
theorem dX1_takeBed_26 : decode cX1_takeBed 26 = .ok (.invokevirtual 65, 3) := by decide +kernel
theorem dX1_takeBed_29 : decode cX1_takeBed 29 = .ok (.aload_n 0, 1) := by decide +kernel
theorem dX1_takeBed_30 : decode cX1_takeBed 30 = .ok (.getfield 15, 3) := by decide +kernel
theorem dX1_takeBed_33 : decode cX1_takeBed 33 = .ok (.iconst 2, 1) := by decide +kernel
theorem dX1_takeBed_34 : decode cX1_takeBed 34 = .ok (.iconst 0, 1) := by decide +kernel
theorem dX1_takeBed_35 : decode cX1_takeBed 35 = .ok (.bipush 99, 2) := by decide +kernel
theorem dX1_takeBed_37 : decode cX1_takeBed 37 = .ok (.iconst 0, 1) := by decide +kernel
theorem dX1_takeBed_38 : decode cX1_takeBed 38 = .ok (.invokevirtual 85, 3) := by decide +kernel
theorem dX1_takeBed_41 : decode cX1_takeBed 41 = .ok (.ifCond .ne 5, 3) := by decide +kernel
theorem dX1_takeBed_44 : decode cX1_takeBed 44 = .ok (.iconst 0, 1) := by decide +kernel
theorem dX1_takeBed_45 : decode cX1_takeBed 45 = .ok (.ireturn, 1) := by decide +kernel
theorem dX1_takeBed_46 : decode cX1_takeBed 46 = .ok (.aload_n 0, 1) := by decide +kernel
theorem dX1_takeBed_47 : decode cX1_takeBed 47 = .ok (.getfield 15, 3) := by decide +kernel
theorem dX1_takeBed_50 : decode cX1_takeBed 50 = .ok (.getfield 72, 3) := by decide +kernel
theorem dX1_takeBed_53 : decode cX1_takeBed 53 = .ok (.istore_n 1, 1) := by decide +kernel
theorem dX1_takeBed_54 : decode cX1_takeBed 54 = .ok (.aload_n 0, 1) := by decide +kernel
theorem dX1_takeBed_55 : decode cX1_takeBed 55 = .ok (.getfield 15, 3) := by decide +kernel
theorem dX1_takeBed_58 : decode cX1_takeBed 58 = .ok (.iconst 3, 1) := by decide +kernel
theorem dX1_takeBed_59 : decode cX1_takeBed 59 = .ok (.iconst 0, 1) := by decide +kernel
theorem dX1_takeBed_60 : decode cX1_takeBed 60 = .ok (.bipush 99, 2) := by decide +kernel
theorem dX1_takeBed_62 : decode cX1_takeBed 62 = .ok (.iconst 0, 1) := by decide +kernel
theorem dX1_takeBed_63 : decode cX1_takeBed 63 = .ok (.invokevirtual 85, 3) := by decide +kernel
theorem dX1_takeBed_66 : decode cX1_takeBed 66 = .ok (.ifCond .ne 5, 3) := by decide +kernel
theorem dX1_takeBed_69 : decode cX1_takeBed 69 = .ok (.iconst 0, 1) := by decide +kernel
theorem dX1_takeBed_70 : decode cX1_takeBed 70 = .ok (.ireturn, 1) := by decide +kernel
theorem dX1_takeBed_71 : decode cX1_takeBed 71 = .ok (.aload_n 0, 1) := by decide +kernel
theorem dX1_takeBed_72 : decode cX1_takeBed 72 = .ok (.getfield 19, 3) := by decide +kernel
theorem dX1_takeBed_75 : decode cX1_takeBed 75 = .ok (.iload_n 1, 1) := by decide +kernel
theorem dX1_takeBed_76 : decode cX1_takeBed 76 = .ok (.aload_n 0, 1) := by decide +kernel
theorem dX1_takeBed_77 : decode cX1_takeBed 77 = .ok (.getfield 15, 3) := by decide +kernel
theorem dX1_takeBed_80 : decode cX1_takeBed 80 = .ok (.getfield 72, 3) := by decide +kernel
theorem dX1_takeBed_83 : decode cX1_takeBed 83 = .ok (.invokevirtual 89, 3) := by decide +kernel
theorem dX1_takeBed_86 : decode cX1_takeBed 86 = .ok (.aload_n 0, 1) := by decide +kernel
theorem dX1_takeBed_87 : decode cX1_takeBed 87 = .ok (.getfield 15, 3) := by decide +kernel
theorem dX1_takeBed_90 : decode cX1_takeBed 90 = .ok (.invokevirtual 79, 3) := by decide +kernel
theorem dX1_takeBed_93 : decode cX1_takeBed 93 = .ok (.ireturn, 1) := by decide +kernel
theorem dX1_takeCase_0 : decode cX1_takeCase 0 = .ok (.aload_n 0, 1) := by decide +kernel
theorem dX1_takeCase_1 : decode cX1_takeCase 1 = .ok (.getfield 19, 3) := by decide +kernel
theorem dX1_takeCase_4 : decode cX1_takeCase 4 = .ok (.getfield 93, 3) := by decide +kernel
theorem dX1_takeCase_7 : decode cX1_takeCase 7 = .ok (.bipush 8, 2) := by decide +kernel
theorem dX1_takeCase_9 : decode cX1_takeCase 9 = .ok (.if_icmp .lt 13, 3) := by decide +kernel
theorem dX1_takeCase_12 : decode cX1_takeCase 12 = .ok (.aload_n 0, 1) := by decide +kernel
theorem dX1_takeCase_13 : decode cX1_takeCase 13 = .ok (.getfield 15, 3) := by decide +kernel
theorem dX1_takeCase_16 : decode cX1_takeCase 16 = .ok (.bipush 6, 2) := by decide +kernel
theorem dX1_takeCase_18 : decode cX1_takeCase 18 = .ok (.invokevirtual 61, 3) := by decide +kernel
theorem dX1_takeCase_21 : decode cX1_takeCase 21 = .ok (.ireturn, 1) := by decide +kernel
theorem dX1_takeCase_22 : decode cX1_takeCase 22 = .ok (.aload_n 0, 1) := by decide +kernel
theorem dX1_takeCase_23 : decode cX1_takeCase 23 = .ok (.getfield 15, 3) := by decide +kernel
theorem dX1_takeCase_26 : decode cX1_takeCase 26 = .ok (.invokevirtual 65, 3) := by decide +kernel
theorem dX1_takeCase_29 : decode cX1_takeCase 29 = .ok (.aload_n 0, 1) := by decide +kernel
theorem dX1_takeCase_30 : decode cX1_takeCase 30 = .ok (.invokevirtual 96, 3) := by decide +kernel
theorem dX1_takeCase_33 : decode cX1_takeCase 33 = .ok (.ifCond .eq 27, 3) := by decide +kernel
theorem dX1_takeCase_36 : decode cX1_takeCase 36 = .ok (.aload_n 0, 1) := by decide +kernel
theorem dX1_takeCase_37 : decode cX1_takeCase 37 = .ok (.getfield 15, 3) := by decide +kernel
theorem dX1_takeCase_40 : decode cX1_takeCase 40 = .ok (.iconst 5, 1) := by decide +kernel
theorem dX1_takeCase_41 : decode cX1_takeCase 41 = .ok (.invokevirtual 99, 3) := by decide +kernel
theorem dX1_takeCase_44 : decode cX1_takeCase 44 = .ok (.ifCond .eq 16, 3) := by decide +kernel
theorem dX1_takeCase_47 : decode cX1_takeCase 47 = .ok (.aload_n 0, 1) := by decide +kernel
theorem dX1_takeCase_48 : decode cX1_takeCase 48 = .ok (.getfield 15, 3) := by decide +kernel
theorem dX1_takeCase_51 : decode cX1_takeCase 51 = .ok (.iconst 1, 1) := by decide +kernel
theorem dX1_takeCase_52 : decode cX1_takeCase 52 = .ok (.bipush 20, 2) := by decide +kernel
theorem dX1_takeCase_54 : decode cX1_takeCase 54 = .ok (.invokevirtual 68, 3) := by decide +kernel
theorem dX1_takeCase_57 : decode cX1_takeCase 57 = .ok (.ifCond .ne 5, 3) := by decide +kernel
theorem dX1_takeCase_60 : decode cX1_takeCase 60 = .ok (.iconst 0, 1) := by decide +kernel
theorem dX1_takeCase_61 : decode cX1_takeCase 61 = .ok (.ireturn, 1) := by decide +kernel
theorem dX1_takeCase_62 : decode cX1_takeCase 62 = .ok (.aload_n 0, 1) := by decide +kernel
theorem dX1_takeCase_63 : decode cX1_takeCase 63 = .ok (.getfield 9, 3) := by decide +kernel
theorem dX1_takeCase_66 : decode cX1_takeCase 66 = .ok (.aload_n 0, 1) := by decide +kernel
theorem dX1_takeCase_67 : decode cX1_takeCase 67 = .ok (.getfield 19, 3) := by decide +kernel
theorem dX1_takeCase_70 : decode cX1_takeCase 70 = .ok (.getfield 93, 3) := by decide +kernel
theorem dX1_takeCase_73 : decode cX1_takeCase 73 = .ok (.aload_n 0, 1) := by decide +kernel
theorem dX1_takeCase_74 : decode cX1_takeCase 74 = .ok (.getfield 102, 3) := by decide +kernel
theorem dX1_takeCase_77 : decode cX1_takeCase 77 = .ok (.lastore, 1) := by decide +kernel
theorem dX1_takeCase_78 : decode cX1_takeCase 78 = .ok (.aload_n 0, 1) := by decide +kernel
theorem dX1_takeCase_79 : decode cX1_takeCase 79 = .ok (.getfield 19, 3) := by decide +kernel
theorem dX1_takeCase_82 : decode cX1_takeCase 82 = .ok (.aload_n 0, 1) := by decide +kernel
theorem dX1_takeCase_83 : decode cX1_takeCase 83 = .ok (.getfield 15, 3) := by decide +kernel
theorem dX1_takeCase_86 : decode cX1_takeCase 86 = .ok (.getfield 72, 3) := by decide +kernel
theorem dX1_takeCase_89 : decode cX1_takeCase 89 = .ok (.invokevirtual 106, 3) := by decide +kernel
theorem dX1_takeCase_92 : decode cX1_takeCase 92 = .ok (.aload_n 0, 1) := by decide +kernel
theorem dX1_takeCase_93 : decode cX1_takeCase 93 = .ok (.getfield 15, 3) := by decide +kernel
theorem dX1_takeCase_96 : decode cX1_takeCase 96 = .ok (.invokevirtual 79, 3) := by decide +kernel
theorem dX1_takeCase_99 : decode cX1_takeCase 99 = .ok (.ireturn, 1) := by decide +kernel
theorem dX1_takeClaim_0 : decode cX1_takeClaim 0 = .ok (.aload_n 0, 1) := by decide +kernel
theorem dX1_takeClaim_1 : decode cX1_takeClaim 1 = .ok (.getfield 19, 3) := by decide +kernel
theorem dX1_takeClaim_4 : decode cX1_takeClaim 4 = .ok (.getfield 109, 3) := by decide +kernel
theorem dX1_takeClaim_7 : decode cX1_takeClaim 7 = .ok (.bipush 7, 2) := by decide +kernel
theorem dX1_takeClaim_9 : decode cX1_takeClaim 9 = .ok (.if_icmp .lt 13, 3) := by decide +kernel
theorem dX1_takeClaim_12 : decode cX1_takeClaim 12 = .ok (.aload_n 0, 1) := by decide +kernel
theorem dX1_takeClaim_13 : decode cX1_takeClaim 13 = .ok (.getfield 15, 3) := by decide +kernel
theorem dX1_takeClaim_16 : decode cX1_takeClaim 16 = .ok (.bipush 6, 2) := by decide +kernel
theorem dX1_takeClaim_18 : decode cX1_takeClaim 18 = .ok (.invokevirtual 61, 3) := by decide +kernel
theorem dX1_takeClaim_21 : decode cX1_takeClaim 21 = .ok (.ireturn, 1) := by decide +kernel
theorem dX1_takeClaim_22 : decode cX1_takeClaim 22 = .ok (.aload_n 0, 1) := by decide +kernel
theorem dX1_takeClaim_23 : decode cX1_takeClaim 23 = .ok (.getfield 15, 3) := by decide +kernel
theorem dX1_takeClaim_26 : decode cX1_takeClaim 26 = .ok (.invokevirtual 65, 3) := by decide +kernel
theorem dX1_takeClaim_29 : decode cX1_takeClaim 29 = .ok (.aload_n 0, 1) := by decide +kernel
theorem dX1_takeClaim_30 : decode cX1_takeClaim 30 = .ok (.invokevirtual 96, 3) := by decide +kernel
theorem dX1_takeClaim_33 : decode cX1_takeClaim 33 = .ok (.ifCond .eq 35, 3) := by decide +kernel
theorem dX1_takeClaim_36 : decode cX1_takeClaim 36 = .ok (.aload_n 0, 1) := by decide +kernel
theorem dX1_takeClaim_37 : decode cX1_takeClaim 37 = .ok (.getfield 15, 3) := by decide +kernel
theorem dX1_takeClaim_40 : decode cX1_takeClaim 40 = .ok (.bipush 7, 2) := by decide +kernel
theorem dX1_takeClaim_42 : decode cX1_takeClaim 42 = .ok (.invokevirtual 99, 3) := by decide +kernel
theorem dX1_takeClaim_45 : decode cX1_takeClaim 45 = .ok (.ifCond .eq 23, 3) := by decide +kernel
theorem dX1_takeClaim_48 : decode cX1_takeClaim 48 = .ok (.aload_n 0, 1) := by decide +kernel
theorem dX1_takeClaim_49 : decode cX1_takeClaim 49 = .ok (.getfield 15, 3) := by decide +kernel
theorem dX1_takeClaim_52 : decode cX1_takeClaim 52 = .ok (.iconst 0, 1) := by decide +kernel
theorem dX1_takeClaim_53 : decode cX1_takeClaim 53 = .ok (.aload_n 0, 1) := by decide +kernel
theorem dX1_takeClaim_54 : decode cX1_takeClaim 54 = .ok (.getfield 19, 3) := by decide +kernel
theorem dX1_takeClaim_57 : decode cX1_takeClaim 57 = .ok (.getfield 82, 3) := by decide +kernel
theorem dX1_takeClaim_60 : decode cX1_takeClaim 60 = .ok (.iconst 1, 1) := by decide +kernel
theorem dX1_takeClaim_61 : decode cX1_takeClaim 61 = .ok (.isub, 1) := by decide +kernel
theorem dX1_takeClaim_62 : decode cX1_takeClaim 62 = .ok (.invokevirtual 68, 3) := by decide +kernel
theorem dX1_takeClaim_65 : decode cX1_takeClaim 65 = .ok (.ifCond .ne 5, 3) := by decide +kernel
theorem dX1_takeClaim_68 : decode cX1_takeClaim 68 = .ok (.iconst 0, 1) := by decide +kernel
theorem dX1_takeClaim_69 : decode cX1_takeClaim 69 = .ok (.ireturn, 1) := by decide +kernel
theorem dX1_takeClaim_70 : decode cX1_takeClaim 70 = .ok (.aload_n 0, 1) := by decide +kernel
theorem dX1_takeClaim_71 : decode cX1_takeClaim 71 = .ok (.getfield 15, 3) := by decide +kernel
theorem dX1_takeClaim_74 : decode cX1_takeClaim 74 = .ok (.getfield 72, 3) := by decide +kernel
theorem dX1_takeClaim_77 : decode cX1_takeClaim 77 = .ok (.istore_n 1, 1) := by decide +kernel
theorem dX1_takeClaim_78 : decode cX1_takeClaim 78 = .ok (.aload_n 0, 1) := by decide +kernel
theorem dX1_takeClaim_79 : decode cX1_takeClaim 79 = .ok (.getfield 15, 3) := by decide +kernel
theorem dX1_takeClaim_82 : decode cX1_takeClaim 82 = .ok (.bipush 8, 2) := by decide +kernel
theorem dX1_takeClaim_84 : decode cX1_takeClaim 84 = .ok (.iconst 1, 1) := by decide +kernel
theorem dX1_takeClaim_85 : decode cX1_takeClaim 85 = .ok (.bipush 9, 2) := by decide +kernel
theorem dX1_takeClaim_87 : decode cX1_takeClaim 87 = .ok (.iconst 1, 1) := by decide +kernel
theorem dX1_takeClaim_88 : decode cX1_takeClaim 88 = .ok (.invokevirtual 85, 3) := by decide +kernel
theorem dX1_takeClaim_91 : decode cX1_takeClaim 91 = .ok (.ifCond .ne 5, 3) := by decide +kernel
theorem dX1_takeClaim_94 : decode cX1_takeClaim 94 = .ok (.iconst 0, 1) := by decide +kernel
theorem dX1_takeClaim_95 : decode cX1_takeClaim 95 = .ok (.ireturn, 1) := by decide +kernel
theorem dX1_takeClaim_96 : decode cX1_takeClaim 96 = .ok (.aload_n 0, 1) := by decide +kernel
theorem dX1_takeClaim_97 : decode cX1_takeClaim 97 = .ok (.getfield 19, 3) := by decide +kernel
theorem dX1_takeClaim_100 : decode cX1_takeClaim 100 = .ok (.aload_n 0, 1) := by decide +kernel
theorem dX1_takeClaim_101 : decode cX1_takeClaim 101 = .ok (.getfield 102, 3) := by decide +kernel
theorem dX1_takeClaim_104 : decode cX1_takeClaim 104 = .ok (.iload_n 1, 1) := by decide +kernel
theorem dX1_takeClaim_105 : decode cX1_takeClaim 105 = .ok (.aload_n 0, 1) := by decide +kernel
theorem dX1_takeClaim_106 : decode cX1_takeClaim 106 = .ok (.getfield 15, 3) := by decide +kernel
theorem dX1_takeClaim_109 : decode cX1_takeClaim 109 = .ok (.getfield 72, 3) := by decide +kernel
theorem dX1_takeClaim_112 : decode cX1_takeClaim 112 = .ok (.iconst 0, 1) := by decide +kernel
theorem dX1_takeClaim_113 : decode cX1_takeClaim 113 = .ok (.invokevirtual 112, 3) := by decide +kernel
theorem dX1_takeClaim_116 : decode cX1_takeClaim 116 = .ok (.aload_n 0, 1) := by decide +kernel
theorem dX1_takeClaim_117 : decode cX1_takeClaim 117 = .ok (.getfield 15, 3) := by decide +kernel
theorem dX1_takeClaim_120 : decode cX1_takeClaim 120 = .ok (.bipush 9, 2) := by decide +kernel
theorem dX1_takeClaim_122 : decode cX1_takeClaim 122 = .ok (.invokevirtual 99, 3) := by decide +kernel
theorem dX1_takeClaim_125 : decode cX1_takeClaim 125 = .ok (.ifCond .eq 23, 3) := by decide +kernel
theorem dX1_takeClaim_128 : decode cX1_takeClaim 128 = .ok (.aload_n 0, 1) := by decide +kernel
theorem dX1_takeClaim_129 : decode cX1_takeClaim 129 = .ok (.aload_n 0, 1) := by decide +kernel
theorem dX1_takeClaim_130 : decode cX1_takeClaim 130 = .ok (.getfield 19, 3) := by decide +kernel
theorem dX1_takeClaim_133 : decode cX1_takeClaim 133 = .ok (.getfield 109, 3) := by decide +kernel
theorem dX1_takeClaim_136 : decode cX1_takeClaim 136 = .ok (.iconst 1, 1) := by decide +kernel
theorem dX1_takeClaim_137 : decode cX1_takeClaim 137 = .ok (.isub, 1) := by decide +kernel
theorem dX1_takeClaim_138 : decode cX1_takeClaim 138 = .ok (.invokevirtual 116, 3) := by decide +kernel
theorem dX1_takeClaim_141 : decode cX1_takeClaim 141 = .ok (.ifCond .eq 7, 3) := by decide +kernel
theorem dX1_takeClaim_144 : decode cX1_takeClaim 144 = .ok (.iconst 1, 1) := by decide +kernel
theorem dX1_takeClaim_145 : decode cX1_takeClaim 145 = .ok (.goto 4, 3) := by decide +kernel
theorem dX1_takeClaim_148 : decode cX1_takeClaim 148 = .ok (.iconst 0, 1) := by decide +kernel
theorem dX1_takeClaim_149 : decode cX1_takeClaim 149 = .ok (.ireturn, 1) := by decide +kernel
theorem dX1_takeTruths_0 : decode cX1_takeTruths 0 = .ok (.iconst 0, 1) := by decide +kernel
theorem dX1_takeTruths_1 : decode cX1_takeTruths 1 = .ok (.istore_n 2, 1) := by decide +kernel
theorem dX1_takeTruths_2 : decode cX1_takeTruths 2 = .ok (.iload_n 2, 1) := by decide +kernel
theorem dX1_takeTruths_3 : decode cX1_takeTruths 3 = .ok (.bipush 8, 2) := by decide +kernel
theorem dX1_takeTruths_5 : decode cX1_takeTruths 5 = .ok (.if_icmp .gt 110, 3) := by decide +kernel
theorem dX1_takeTruths_8 : decode cX1_takeTruths 8 = .ok (.aload_n 0, 1) := by decide +kernel
theorem dX1_takeTruths_9 : decode cX1_takeTruths 9 = .ok (.getfield 15, 3) := by decide +kernel
theorem dX1_takeTruths_12 : decode cX1_takeTruths 12 = .ok (.invokevirtual 119, 3) := by decide +kernel
theorem dX1_takeTruths_15 : decode cX1_takeTruths 15 = .ok (.ifCond .ne 11, 3) := by decide +kernel
theorem dX1_takeTruths_18 : decode cX1_takeTruths 18 = .ok (.aload_n 0, 1) := by decide +kernel
theorem dX1_takeTruths_19 : decode cX1_takeTruths 19 = .ok (.getfield 15, 3) := by decide +kernel
theorem dX1_takeTruths_22 : decode cX1_takeTruths 22 = .ok (.invokevirtual 79, 3) := by decide +kernel
theorem dX1_takeTruths_25 : decode cX1_takeTruths 25 = .ok (.ireturn, 1) := by decide +kernel
theorem dX1_takeTruths_26 : decode cX1_takeTruths 26 = .ok (.aload_n 0, 1) := by decide +kernel
theorem dX1_takeTruths_27 : decode cX1_takeTruths 27 = .ok (.getfield 9, 3) := by decide +kernel
theorem dX1_takeTruths_30 : decode cX1_takeTruths 30 = .ok (.aload_n 0, 1) := by decide +kernel
theorem dX1_takeTruths_31 : decode cX1_takeTruths 31 = .ok (.getfield 19, 3) := by decide +kernel
theorem dX1_takeTruths_34 : decode cX1_takeTruths 34 = .ok (.getfield 93, 3) := by decide +kernel
theorem dX1_takeTruths_37 : decode cX1_takeTruths 37 = .ok (.aload_n 0, 1) := by decide +kernel
theorem dX1_takeTruths_38 : decode cX1_takeTruths 38 = .ok (.getfield 15, 3) := by decide +kernel
theorem dX1_takeTruths_41 : decode cX1_takeTruths 41 = .ok (.getfield 122, 3) := by decide +kernel
theorem dX1_takeTruths_44 : decode cX1_takeTruths 44 = .ok (.invokestatic 125, 3) := by decide +kernel
theorem dX1_takeTruths_47 : decode cX1_takeTruths 47 = .ok (.istore_n 3, 1) := by decide +kernel
theorem dX1_takeTruths_48 : decode cX1_takeTruths 48 = .ok (.iload_n 3, 1) := by decide +kernel
theorem dX1_takeTruths_49 : decode cX1_takeTruths 49 = .ok (.iconst (-1), 1) := by decide +kernel
theorem dX1_takeTruths_50 : decode cX1_takeTruths 50 = .ok (.if_icmp .ne 12, 3) := by decide +kernel
theorem dX1_takeTruths_53 : decode cX1_takeTruths 53 = .ok (.aload_n 0, 1) := by decide +kernel
theorem dX1_takeTruths_54 : decode cX1_takeTruths 54 = .ok (.getfield 15, 3) := by decide +kernel
theorem dX1_takeTruths_57 : decode cX1_takeTruths 57 = .ok (.iconst 3, 1) := by decide +kernel
theorem dX1_takeTruths_58 : decode cX1_takeTruths 58 = .ok (.invokevirtual 61, 3) := by decide +kernel
theorem dX1_takeTruths_61 : decode cX1_takeTruths 61 = .ok (.ireturn, 1) := by decide +kernel
theorem dX1_takeTruths_62 : decode cX1_takeTruths 62 = .ok (.aload_n 0, 1) := by decide +kernel
theorem dX1_takeTruths_63 : decode cX1_takeTruths 63 = .ok (.getfield 19, 3) := by decide +kernel
theorem dX1_takeTruths_66 : decode cX1_takeTruths 66 = .ok (.getfield 129, 3) := by decide +kernel
theorem dX1_takeTruths_69 : decode cX1_takeTruths 69 = .ok (.iload_n 1, 1) := by decide +kernel
theorem dX1_takeTruths_70 : decode cX1_takeTruths 70 = .ok (.iaload, 1) := by decide +kernel
theorem dX1_takeTruths_71 : decode cX1_takeTruths 71 = .ok (.iconst 1, 1) := by decide +kernel
theorem dX1_takeTruths_72 : decode cX1_takeTruths 72 = .ok (.iload_n 3, 1) := by decide +kernel
theorem dX1_takeTruths_73 : decode cX1_takeTruths 73 = .ok (.ishl, 1) := by decide +kernel
theorem dX1_takeTruths_74 : decode cX1_takeTruths 74 = .ok (.iand, 1) := by decide +kernel
theorem dX1_takeTruths_75 : decode cX1_takeTruths 75 = .ok (.ifCond .eq 12, 3) := by decide +kernel
theorem dX1_takeTruths_78 : decode cX1_takeTruths 78 = .ok (.aload_n 0, 1) := by decide +kernel
theorem dX1_takeTruths_79 : decode cX1_takeTruths 79 = .ok (.getfield 15, 3) := by decide +kernel
theorem dX1_takeTruths_82 : decode cX1_takeTruths 82 = .ok (.iconst 5, 1) := by decide +kernel
theorem dX1_takeTruths_83 : decode cX1_takeTruths 83 = .ok (.invokevirtual 61, 3) := by decide +kernel
theorem dX1_takeTruths_86 : decode cX1_takeTruths 86 = .ok (.ireturn, 1) := by decide +kernel
theorem dX1_takeTruths_87 : decode cX1_takeTruths 87 = .ok (.aload_n 0, 1) := by decide +kernel
theorem dX1_takeTruths_88 : decode cX1_takeTruths 88 = .ok (.getfield 19, 3) := by decide +kernel
theorem dX1_takeTruths_91 : decode cX1_takeTruths 91 = .ok (.getfield 129, 3) := by decide +kernel
theorem dX1_takeTruths_94 : decode cX1_takeTruths 94 = .ok (.iload_n 1, 1) := by decide +kernel
theorem dX1_takeTruths_95 : decode cX1_takeTruths 95 = .ok (.dup2, 1) := by decide +kernel
theorem dX1_takeTruths_96 : decode cX1_takeTruths 96 = .ok (.iaload, 1) := by decide +kernel
theorem dX1_takeTruths_97 : decode cX1_takeTruths 97 = .ok (.iconst 1, 1) := by decide +kernel
theorem dX1_takeTruths_98 : decode cX1_takeTruths 98 = .ok (.iload_n 3, 1) := by decide +kernel
theorem dX1_takeTruths_99 : decode cX1_takeTruths 99 = .ok (.ishl, 1) := by decide +kernel
theorem dX1_takeTruths_100 : decode cX1_takeTruths 100 = .ok (.ior, 1) := by decide +kernel
theorem dX1_takeTruths_101 : decode cX1_takeTruths 101 = .ok (.iastore, 1) := by decide +kernel
theorem dX1_takeTruths_102 : decode cX1_takeTruths 102 = .ok (.aload_n 0, 1) := by decide +kernel
theorem dX1_takeTruths_103 : decode cX1_takeTruths 103 = .ok (.getfield 15, 3) := by decide +kernel
theorem dX1_takeTruths_106 : decode cX1_takeTruths 106 = .ok (.invokevirtual 65, 3) := by decide +kernel
theorem dX1_takeTruths_109 : decode cX1_takeTruths 109 = .ok (.iinc 2 1, 3) := by decide +kernel
theorem dX1_takeTruths_112 : decode cX1_takeTruths 112 = .ok (.goto (-110), 3) := by decide +kernel
theorem dX1_takeTruths_115 : decode cX1_takeTruths 115 = .ok (.aload_n 0, 1) := by decide +kernel
theorem dX1_takeTruths_116 : decode cX1_takeTruths 116 = .ok (.getfield 15, 3) := by decide +kernel
theorem dX1_takeTruths_119 : decode cX1_takeTruths 119 = .ok (.iconst 2, 1) := by decide +kernel
theorem dX1_takeTruths_120 : decode cX1_takeTruths 120 = .ok (.invokevirtual 61, 3) := by decide +kernel
theorem dX1_takeTruths_123 : decode cX1_takeTruths 123 = .ok (.ireturn, 1) := by decide +kernel
theorem dX1_takeScholar_0 : decode cX1_takeScholar 0 = .ok (.aload_n 0, 1) := by decide +kernel
theorem dX1_takeScholar_1 : decode cX1_takeScholar 1 = .ok (.getfield 19, 3) := by decide +kernel
theorem dX1_takeScholar_4 : decode cX1_takeScholar 4 = .ok (.getfield 133, 3) := by decide +kernel
theorem dX1_takeScholar_7 : decode cX1_takeScholar 7 = .ok (.iconst 4, 1) := by decide +kernel
theorem dX1_takeScholar_8 : decode cX1_takeScholar 8 = .ok (.if_icmp .lt 13, 3) := by decide +kernel
theorem dX1_takeScholar_11 : decode cX1_takeScholar 11 = .ok (.aload_n 0, 1) := by decide +kernel
theorem dX1_takeScholar_12 : decode cX1_takeScholar 12 = .ok (.getfield 15, 3) := by decide +kernel
theorem dX1_takeScholar_15 : decode cX1_takeScholar 15 = .ok (.bipush 6, 2) := by decide +kernel
theorem dX1_takeScholar_17 : decode cX1_takeScholar 17 = .ok (.invokevirtual 61, 3) := by decide +kernel
theorem dX1_takeScholar_20 : decode cX1_takeScholar 20 = .ok (.ireturn, 1) := by decide +kernel
theorem dX1_takeScholar_21 : decode cX1_takeScholar 21 = .ok (.aload_n 0, 1) := by decide +kernel
theorem dX1_takeScholar_22 : decode cX1_takeScholar 22 = .ok (.getfield 15, 3) := by decide +kernel
theorem dX1_takeScholar_25 : decode cX1_takeScholar 25 = .ok (.invokevirtual 65, 3) := by decide +kernel
theorem dX1_takeScholar_28 : decode cX1_takeScholar 28 = .ok (.aload_n 0, 1) := by decide +kernel
theorem dX1_takeScholar_29 : decode cX1_takeScholar 29 = .ok (.invokevirtual 96, 3) := by decide +kernel
theorem dX1_takeScholar_32 : decode cX1_takeScholar 32 = .ok (.ifCond .eq 35, 3) := by decide +kernel
theorem dX1_takeScholar_35 : decode cX1_takeScholar 35 = .ok (.aload_n 0, 1) := by decide +kernel
theorem dX1_takeScholar_36 : decode cX1_takeScholar 36 = .ok (.getfield 15, 3) := by decide +kernel
theorem dX1_takeScholar_39 : decode cX1_takeScholar 39 = .ok (.bipush 7, 2) := by decide +kernel
theorem dX1_takeScholar_41 : decode cX1_takeScholar 41 = .ok (.invokevirtual 99, 3) := by decide +kernel
theorem dX1_takeScholar_44 : decode cX1_takeScholar 44 = .ok (.ifCond .eq 23, 3) := by decide +kernel
theorem dX1_takeScholar_47 : decode cX1_takeScholar 47 = .ok (.aload_n 0, 1) := by decide +kernel
theorem dX1_takeScholar_48 : decode cX1_takeScholar 48 = .ok (.getfield 15, 3) := by decide +kernel
theorem dX1_takeScholar_51 : decode cX1_takeScholar 51 = .ok (.iconst 0, 1) := by decide +kernel
theorem dX1_takeScholar_52 : decode cX1_takeScholar 52 = .ok (.aload_n 0, 1) := by decide +kernel
theorem dX1_takeScholar_53 : decode cX1_takeScholar 53 = .ok (.getfield 19, 3) := by decide +kernel
theorem dX1_takeScholar_56 : decode cX1_takeScholar 56 = .ok (.getfield 82, 3) := by decide +kernel
theorem dX1_takeScholar_59 : decode cX1_takeScholar 59 = .ok (.iconst 1, 1) := by decide +kernel
theorem dX1_takeScholar_60 : decode cX1_takeScholar 60 = .ok (.isub, 1) := by decide +kernel
theorem dX1_takeScholar_61 : decode cX1_takeScholar 61 = .ok (.invokevirtual 68, 3) := by decide +kernel
theorem dX1_takeScholar_64 : decode cX1_takeScholar 64 = .ok (.ifCond .ne 5, 3) := by decide +kernel
theorem dX1_takeScholar_67 : decode cX1_takeScholar 67 = .ok (.iconst 0, 1) := by decide +kernel
theorem dX1_takeScholar_68 : decode cX1_takeScholar 68 = .ok (.ireturn, 1) := by decide +kernel
theorem dX1_takeScholar_69 : decode cX1_takeScholar 69 = .ok (.aload_n 0, 1) := by decide +kernel
theorem dX1_takeScholar_70 : decode cX1_takeScholar 70 = .ok (.getfield 15, 3) := by decide +kernel
theorem dX1_takeScholar_73 : decode cX1_takeScholar 73 = .ok (.getfield 72, 3) := by decide +kernel
theorem dX1_takeScholar_76 : decode cX1_takeScholar 76 = .ok (.istore_n 1, 1) := by decide +kernel
theorem dX1_takeScholar_77 : decode cX1_takeScholar 77 = .ok (.aload_n 0, 1) := by decide +kernel
theorem dX1_takeScholar_78 : decode cX1_takeScholar 78 = .ok (.getfield 15, 3) := by decide +kernel
theorem dX1_takeScholar_81 : decode cX1_takeScholar 81 = .ok (.bipush 11, 2) := by decide +kernel
theorem dX1_takeScholar_83 : decode cX1_takeScholar 83 = .ok (.iconst 0, 1) := by decide +kernel
theorem dX1_takeScholar_84 : decode cX1_takeScholar 84 = .ok (.sipush 999, 3) := by decide +kernel
theorem dX1_takeScholar_87 : decode cX1_takeScholar 87 = .ok (.iconst 0, 1) := by decide +kernel
theorem dX1_takeScholar_88 : decode cX1_takeScholar 88 = .ok (.invokevirtual 85, 3) := by decide +kernel
theorem dX1_takeScholar_91 : decode cX1_takeScholar 91 = .ok (.ifCond .ne 5, 3) := by decide +kernel
theorem dX1_takeScholar_94 : decode cX1_takeScholar 94 = .ok (.iconst 0, 1) := by decide +kernel
theorem dX1_takeScholar_95 : decode cX1_takeScholar 95 = .ok (.ireturn, 1) := by decide +kernel
theorem dX1_takeScholar_96 : decode cX1_takeScholar 96 = .ok (.aload_n 0, 1) := by decide +kernel
theorem dX1_takeScholar_97 : decode cX1_takeScholar 97 = .ok (.getfield 19, 3) := by decide +kernel
theorem dX1_takeScholar_100 : decode cX1_takeScholar 100 = .ok (.aload_n 0, 1) := by decide +kernel
theorem dX1_takeScholar_101 : decode cX1_takeScholar 101 = .ok (.getfield 102, 3) := by decide +kernel
theorem dX1_takeScholar_104 : decode cX1_takeScholar 104 = .ok (.iload_n 1, 1) := by decide +kernel
theorem dX1_takeScholar_105 : decode cX1_takeScholar 105 = .ok (.aload_n 0, 1) := by decide +kernel
theorem dX1_takeScholar_106 : decode cX1_takeScholar 106 = .ok (.getfield 15, 3) := by decide +kernel
theorem dX1_takeScholar_109 : decode cX1_takeScholar 109 = .ok (.getfield 72, 3) := by decide +kernel
theorem dX1_takeScholar_112 : decode cX1_takeScholar 112 = .ok (.invokevirtual 136, 3) := by decide +kernel
theorem dX1_takeScholar_115 : decode cX1_takeScholar 115 = .ok (.aload_n 0, 1) := by decide +kernel
theorem dX1_takeScholar_116 : decode cX1_takeScholar 116 = .ok (.getfield 15, 3) := by decide +kernel
theorem dX1_takeScholar_119 : decode cX1_takeScholar 119 = .ok (.invokevirtual 79, 3) := by decide +kernel
theorem dX1_takeScholar_122 : decode cX1_takeScholar 122 = .ok (.ireturn, 1) := by decide +kernel
theorem dX1_takeNewName_0 : decode cX1_takeNewName 0 = .ok (.aload_n 0, 1) := by decide +kernel
theorem dX1_takeNewName_1 : decode cX1_takeNewName 1 = .ok (.getfield 15, 3) := by decide +kernel
theorem dX1_takeNewName_4 : decode cX1_takeNewName 4 = .ok (.invokevirtual 119, 3) := by decide +kernel
theorem dX1_takeNewName_7 : decode cX1_takeNewName 7 = .ok (.ifCond .ne 12, 3) := by decide +kernel
theorem dX1_takeNewName_10 : decode cX1_takeNewName 10 = .ok (.aload_n 0, 1) := by decide +kernel
theorem dX1_takeNewName_11 : decode cX1_takeNewName 11 = .ok (.getfield 15, 3) := by decide +kernel
theorem dX1_takeNewName_14 : decode cX1_takeNewName 14 = .ok (.iconst 2, 1) := by decide +kernel
theorem dX1_takeNewName_15 : decode cX1_takeNewName 15 = .ok (.invokevirtual 61, 3) := by decide +kernel
theorem dX1_takeNewName_18 : decode cX1_takeNewName 18 = .ok (.ireturn, 1) := by decide +kernel
theorem dX1_takeNewName_19 : decode cX1_takeNewName 19 = .ok (.aload_n 0, 1) := by decide +kernel
theorem dX1_takeNewName_20 : decode cX1_takeNewName 20 = .ok (.aload_n 0, 1) := by decide +kernel
theorem dX1_takeNewName_21 : decode cX1_takeNewName 21 = .ok (.getfield 15, 3) := by decide +kernel
theorem dX1_takeNewName_24 : decode cX1_takeNewName 24 = .ok (.getfield 122, 3) := by decide +kernel
theorem dX1_takeNewName_27 : decode cX1_takeNewName 27 = .ok (.putfield 102, 3) := by decide +kernel
theorem dX1_takeNewName_30 : decode cX1_takeNewName 30 = .ok (.aload_n 0, 1) := by decide +kernel
theorem dX1_takeNewName_31 : decode cX1_takeNewName 31 = .ok (.getfield 9, 3) := by decide +kernel
theorem dX1_takeNewName_34 : decode cX1_takeNewName 34 = .ok (.aload_n 0, 1) := by decide +kernel
theorem dX1_takeNewName_35 : decode cX1_takeNewName 35 = .ok (.getfield 19, 3) := by decide +kernel
theorem dX1_takeNewName_38 : decode cX1_takeNewName 38 = .ok (.getfield 93, 3) := by decide +kernel
theorem dX1_takeNewName_41 : decode cX1_takeNewName 41 = .ok (.aload_n 0, 1) := by decide +kernel
theorem dX1_takeNewName_42 : decode cX1_takeNewName 42 = .ok (.getfield 102, 3) := by decide +kernel
theorem dX1_takeNewName_45 : decode cX1_takeNewName 45 = .ok (.invokestatic 125, 3) := by decide +kernel
theorem dX1_takeNewName_48 : decode cX1_takeNewName 48 = .ok (.iconst (-1), 1) := by decide +kernel
theorem dX1_takeNewName_49 : decode cX1_takeNewName 49 = .ok (.if_icmp .ne 53, 3) := by decide +kernel
theorem dX1_takeNewName_52 : decode cX1_takeNewName 52 = .ok (.aload_n 0, 1) := by decide +kernel
theorem dX1_takeNewName_53 : decode cX1_takeNewName 53 = .ok (.getfield 19, 3) := by decide +kernel
theorem dX1_takeNewName_56 : decode cX1_takeNewName 56 = .ok (.getfield 140, 3) := by decide +kernel
theorem dX1_takeNewName_59 : decode cX1_takeNewName 59 = .ok (.aload_n 0, 1) := by decide +kernel
theorem dX1_takeNewName_60 : decode cX1_takeNewName 60 = .ok (.getfield 19, 3) := by decide +kernel
theorem dX1_takeNewName_63 : decode cX1_takeNewName 63 = .ok (.getfield 109, 3) := by decide +kernel
theorem dX1_takeNewName_66 : decode cX1_takeNewName 66 = .ok (.aload_n 0, 1) := by decide +kernel
theorem dX1_takeNewName_67 : decode cX1_takeNewName 67 = .ok (.getfield 102, 3) := by decide +kernel
theorem dX1_takeNewName_70 : decode cX1_takeNewName 70 = .ok (.invokestatic 125, 3) := by decide +kernel
theorem dX1_takeNewName_73 : decode cX1_takeNewName 73 = .ok (.iconst (-1), 1) := by decide +kernel
theorem dX1_takeNewName_74 : decode cX1_takeNewName 74 = .ok (.if_icmp .ne 28, 3) := by decide +kernel
theorem dX1_takeNewName_77 : decode cX1_takeNewName 77 = .ok (.aload_n 0, 1) := by decide +kernel
theorem dX1_takeNewName_78 : decode cX1_takeNewName 78 = .ok (.getfield 19, 3) := by decide +kernel
theorem dX1_takeNewName_81 : decode cX1_takeNewName 81 = .ok (.getfield 143, 3) := by decide +kernel
theorem dX1_takeNewName_84 : decode cX1_takeNewName 84 = .ok (.aload_n 0, 1) := by decide +kernel
theorem dX1_takeNewName_85 : decode cX1_takeNewName 85 = .ok (.getfield 19, 3) := by decide +kernel
theorem dX1_takeNewName_88 : decode cX1_takeNewName 88 = .ok (.getfield 133, 3) := by decide +kernel
theorem dX1_takeNewName_91 : decode cX1_takeNewName 91 = .ok (.aload_n 0, 1) := by decide +kernel
theorem dX1_takeNewName_92 : decode cX1_takeNewName 92 = .ok (.getfield 102, 3) := by decide +kernel
theorem dX1_takeNewName_95 : decode cX1_takeNewName 95 = .ok (.invokestatic 125, 3) := by decide +kernel
theorem dX1_takeNewName_98 : decode cX1_takeNewName 98 = .ok (.iconst (-1), 1) := by decide +kernel
theorem dX1_takeNewName_99 : decode cX1_takeNewName 99 = .ok (.if_icmp .eq 12, 3) := by decide +kernel
theorem dX1_takeNewName_102 : decode cX1_takeNewName 102 = .ok (.aload_n 0, 1) := by decide +kernel
theorem dX1_takeNewName_103 : decode cX1_takeNewName 103 = .ok (.getfield 15, 3) := by decide +kernel
theorem dX1_takeNewName_106 : decode cX1_takeNewName 106 = .ok (.iconst 3, 1) := by decide +kernel
theorem dX1_takeNewName_107 : decode cX1_takeNewName 107 = .ok (.invokevirtual 61, 3) := by decide +kernel
theorem dX1_takeNewName_110 : decode cX1_takeNewName 110 = .ok (.ireturn, 1) := by decide +kernel
theorem dX1_takeNewName_111 : decode cX1_takeNewName 111 = .ok (.aload_n 0, 1) := by decide +kernel
theorem dX1_takeNewName_112 : decode cX1_takeNewName 112 = .ok (.getfield 15, 3) := by decide +kernel
theorem dX1_takeNewName_115 : decode cX1_takeNewName 115 = .ok (.invokevirtual 65, 3) := by decide +kernel
theorem dX1_takeNewName_118 : decode cX1_takeNewName 118 = .ok (.iconst 1, 1) := by decide +kernel
theorem dX1_takeNewName_119 : decode cX1_takeNewName 119 = .ok (.ireturn, 1) := by decide +kernel
theorem dX2_init_0 : decode cX2_init 0 = .ok (.aload_n 0, 1) := by decide +kernel
theorem dX2_init_1 : decode cX2_init 1 = .ok (.invokespecial 3, 3) := by decide +kernel
theorem dX2_init_4 : decode cX2_init 4 = .ok (.aload_n 0, 1) := by decide +kernel
theorem dX2_init_5 : decode cX2_init 5 = .ok (.sipush 896, 3) := by decide +kernel
theorem dX2_init_8 : decode cX2_init 8 = .ok (.newarray .int, 2) := by decide +kernel
theorem dX2_init_10 : decode cX2_init 10 = .ok (.putfield 9, 3) := by decide +kernel
theorem dX2_init_13 : decode cX2_init 13 = .ok (.aload_n 0, 1) := by decide +kernel
theorem dX2_init_14 : decode cX2_init 14 = .ok (.sipush 640, 3) := by decide +kernel
theorem dX2_init_17 : decode cX2_init 17 = .ok (.newarray .int, 2) := by decide +kernel
theorem dX2_init_19 : decode cX2_init 19 = .ok (.putfield 15, 3) := by decide +kernel
theorem dX2_init_22 : decode cX2_init 22 = .ok (.aload_n 0, 1) := by decide +kernel
theorem dX2_init_23 : decode cX2_init 23 = .ok (.aload_n 1, 1) := by decide +kernel
theorem dX2_init_24 : decode cX2_init 24 = .ok (.putfield 18, 3) := by decide +kernel
theorem dX2_init_27 : decode cX2_init 27 = .ok (.return_, 1) := by decide +kernel
theorem dX2_lookAlone_0 : decode cX2_lookAlone 0 = .ok (.aload_n 0, 1) := by decide +kernel
theorem dX2_lookAlone_1 : decode cX2_lookAlone 1 = .ok (.iload_n 1, 1) := by decide +kernel
theorem dX2_lookAlone_2 : decode cX2_lookAlone 2 = .ok (.invokevirtual 22, 3) := by decide +kernel
theorem dX2_lookAlone_5 : decode cX2_lookAlone 5 = .ok (.iconst 1, 1) := by decide +kernel
theorem dX2_lookAlone_6 : decode cX2_lookAlone 6 = .ok (.istore_n 2, 1) := by decide +kernel
theorem dX2_lookAlone_7 : decode cX2_lookAlone 7 = .ok (.iload_n 2, 1) := by decide +kernel
theorem dX2_lookAlone_8 : decode cX2_lookAlone 8 = .ok (.iload_n 1, 1) := by decide +kernel
theorem dX2_lookAlone_9 : decode cX2_lookAlone 9 = .ok (.if_icmp .gt 69, 3) := by decide +kernel
theorem dX2_lookAlone_12 : decode cX2_lookAlone 12 = .ok (.aload_n 0, 1) := by decide +kernel
theorem dX2_lookAlone_13 : decode cX2_lookAlone 13 = .ok (.getfield 18, 3) := by decide +kernel
theorem dX2_lookAlone_16 : decode cX2_lookAlone 16 = .ok (.getfield 26, 3) := by decide +kernel
theorem dX2_lookAlone_19 : decode cX2_lookAlone 19 = .ok (.istore_n 3, 1) := by decide +kernel
theorem dX2_lookAlone_20 : decode cX2_lookAlone 20 = .ok (.iload_n 3, 1) := by decide +kernel
theorem dX2_lookAlone_21 : decode cX2_lookAlone 21 = .ok (.iconst 1, 1) := by decide +kernel
theorem dX2_lookAlone_22 : decode cX2_lookAlone 22 = .ok (.aload_n 0, 1) := by decide +kernel
theorem dX2_lookAlone_23 : decode cX2_lookAlone 23 = .ok (.getfield 18, 3) := by decide +kernel
theorem dX2_lookAlone_26 : decode cX2_lookAlone 26 = .ok (.getfield 32, 3) := by decide +kernel
theorem dX2_lookAlone_29 : decode cX2_lookAlone 29 = .ok (.ishl, 1) := by decide +kernel
theorem dX2_lookAlone_30 : decode cX2_lookAlone 30 = .ok (.if_icmp .ge 42, 3) := by decide +kernel
theorem dX2_lookAlone_33 : decode cX2_lookAlone 33 = .ok (.aload_n 0, 1) := by decide +kernel
theorem dX2_lookAlone_34 : decode cX2_lookAlone 34 = .ok (.iload_n 3, 1) := by decide +kernel
theorem dX2_lookAlone_35 : decode cX2_lookAlone 35 = .ok (.invokevirtual 35, 3) := by decide +kernel
theorem dX2_lookAlone_38 : decode cX2_lookAlone 38 = .ok (.iconst 0, 1) := by decide +kernel
theorem dX2_lookAlone_39 : decode cX2_lookAlone 39 = .ok (.iload_n 1, 1) := by decide +kernel
theorem dX2_lookAlone_40 : decode cX2_lookAlone 40 = .ok (.iload_n 2, 1) := by decide +kernel
theorem dX2_lookAlone_41 : decode cX2_lookAlone 41 = .ok (.isub, 1) := by decide +kernel
theorem dX2_lookAlone_42 : decode cX2_lookAlone 42 = .ok (.invokestatic 39, 3) := by decide +kernel
theorem dX2_lookAlone_45 : decode cX2_lookAlone 45 = .ok (.ifCond .eq 21, 3) := by decide +kernel
theorem dX2_lookAlone_48 : decode cX2_lookAlone 48 = .ok (.aload_n 0, 1) := by decide +kernel
theorem dX2_lookAlone_49 : decode cX2_lookAlone 49 = .ok (.getfield 15, 3) := by decide +kernel
theorem dX2_lookAlone_52 : decode cX2_lookAlone 52 = .ok (.iload_n 2, 1) := by decide +kernel
theorem dX2_lookAlone_53 : decode cX2_lookAlone 53 = .ok (.iload_n 3, 1) := by decide +kernel
theorem dX2_lookAlone_54 : decode cX2_lookAlone 54 = .ok (.invokestatic 43, 3) := by decide +kernel
theorem dX2_lookAlone_57 : decode cX2_lookAlone 57 = .ok (.aload_n 0, 1) := by decide +kernel
theorem dX2_lookAlone_58 : decode cX2_lookAlone 58 = .ok (.iload_n 2, 1) := by decide +kernel
theorem dX2_lookAlone_59 : decode cX2_lookAlone 59 = .ok (.iload_n 3, 1) := by decide +kernel
theorem dX2_lookAlone_60 : decode cX2_lookAlone 60 = .ok (.iconst 0, 1) := by decide +kernel
theorem dX2_lookAlone_61 : decode cX2_lookAlone 61 = .ok (.iconst 1, 1) := by decide +kernel
theorem dX2_lookAlone_62 : decode cX2_lookAlone 62 = .ok (.invokevirtual 47, 3) := by decide +kernel
theorem dX2_lookAlone_65 : decode cX2_lookAlone 65 = .ok (.iastore, 1) := by decide +kernel
theorem dX2_lookAlone_66 : decode cX2_lookAlone 66 = .ok (.iinc 3 1, 3) := by decide +kernel
theorem dX2_lookAlone_69 : decode cX2_lookAlone 69 = .ok (.goto (-49), 3) := by decide +kernel
theorem dX2_lookAlone_72 : decode cX2_lookAlone 72 = .ok (.iinc 2 1, 3) := by decide +kernel
theorem dX2_lookAlone_75 : decode cX2_lookAlone 75 = .ok (.goto (-68), 3) := by decide +kernel
theorem dX2_lookAlone_78 : decode cX2_lookAlone 78 = .ok (.return_, 1) := by decide +kernel
theorem dX2_lookByTurns_0 : decode cX2_lookByTurns 0 = .ok (.aload_n 0, 1) := by decide +kernel
theorem dX2_lookByTurns_1 : decode cX2_lookByTurns 1 = .ok (.iload_n 1, 1) := by decide +kernel
theorem dX2_lookByTurns_2 : decode cX2_lookByTurns 2 = .ok (.invokevirtual 22, 3) := by decide +kernel
theorem dX2_lookByTurns_5 : decode cX2_lookByTurns 5 = .ok (.iconst 1, 1) := by decide +kernel
theorem dX2_lookByTurns_6 : decode cX2_lookByTurns 6 = .ok (.istore_n 2, 1) := by decide +kernel
theorem dX2_lookByTurns_7 : decode cX2_lookByTurns 7 = .ok (.iload_n 2, 1) := by decide +kernel
theorem dX2_lookByTurns_8 : decode cX2_lookByTurns 8 = .ok (.iload_n 1, 1) := by decide +kernel
theorem dX2_lookByTurns_9 : decode cX2_lookByTurns 9 = .ok (.if_icmp .gt 85, 3) := by decide +kernel
theorem dX2_lookByTurns_12 : decode cX2_lookByTurns 12 = .ok (.aload_n 0, 1) := by decide +kernel
theorem dX2_lookByTurns_13 : decode cX2_lookByTurns 13 = .ok (.getfield 18, 3) := by decide +kernel
theorem dX2_lookByTurns_16 : decode cX2_lookByTurns 16 = .ok (.getfield 26, 3) := by decide +kernel
theorem dX2_lookByTurns_19 : decode cX2_lookByTurns 19 = .ok (.istore_n 3, 1) := by decide +kernel
theorem dX2_lookByTurns_20 : decode cX2_lookByTurns 20 = .ok (.iload_n 3, 1) := by decide +kernel
theorem dX2_lookByTurns_21 : decode cX2_lookByTurns 21 = .ok (.iconst 1, 1) := by decide +kernel
theorem dX2_lookByTurns_22 : decode cX2_lookByTurns 22 = .ok (.aload_n 0, 1) := by decide +kernel
theorem dX2_lookByTurns_23 : decode cX2_lookByTurns 23 = .ok (.getfield 18, 3) := by decide +kernel
theorem dX2_lookByTurns_26 : decode cX2_lookByTurns 26 = .ok (.getfield 32, 3) := by decide +kernel
theorem dX2_lookByTurns_29 : decode cX2_lookByTurns 29 = .ok (.ishl, 1) := by decide +kernel
theorem dX2_lookByTurns_30 : decode cX2_lookByTurns 30 = .ok (.if_icmp .ge 58, 3) := by decide +kernel
theorem dX2_lookByTurns_33 : decode cX2_lookByTurns 33 = .ok (.aload_n 0, 1) := by decide +kernel
theorem dX2_lookByTurns_34 : decode cX2_lookByTurns 34 = .ok (.iload_n 3, 1) := by decide +kernel
theorem dX2_lookByTurns_35 : decode cX2_lookByTurns 35 = .ok (.invokevirtual 35, 3) := by decide +kernel
theorem dX2_lookByTurns_38 : decode cX2_lookByTurns 38 = .ok (.iconst 0, 1) := by decide +kernel
theorem dX2_lookByTurns_39 : decode cX2_lookByTurns 39 = .ok (.iload_n 1, 1) := by decide +kernel
theorem dX2_lookByTurns_40 : decode cX2_lookByTurns 40 = .ok (.iload_n 2, 1) := by decide +kernel
theorem dX2_lookByTurns_41 : decode cX2_lookByTurns 41 = .ok (.isub, 1) := by decide +kernel
theorem dX2_lookByTurns_42 : decode cX2_lookByTurns 42 = .ok (.invokestatic 39, 3) := by decide +kernel
theorem dX2_lookByTurns_45 : decode cX2_lookByTurns 45 = .ok (.ifCond .eq 37, 3) := by decide +kernel
theorem dX2_lookByTurns_48 : decode cX2_lookByTurns 48 = .ok (.aload_n 0, 1) := by decide +kernel
theorem dX2_lookByTurns_49 : decode cX2_lookByTurns 49 = .ok (.getfield 15, 3) := by decide +kernel
theorem dX2_lookByTurns_52 : decode cX2_lookByTurns 52 = .ok (.iload_n 2, 1) := by decide +kernel
theorem dX2_lookByTurns_53 : decode cX2_lookByTurns 53 = .ok (.iconst 1, 1) := by decide +kernel
theorem dX2_lookByTurns_54 : decode cX2_lookByTurns 54 = .ok (.isub, 1) := by decide +kernel
theorem dX2_lookByTurns_55 : decode cX2_lookByTurns 55 = .ok (.iload_n 3, 1) := by decide +kernel
theorem dX2_lookByTurns_56 : decode cX2_lookByTurns 56 = .ok (.invokestatic 43, 3) := by decide +kernel
theorem dX2_lookByTurns_59 : decode cX2_lookByTurns 59 = .ok (.iaload, 1) := by decide +kernel
theorem dX2_lookByTurns_60 : decode cX2_lookByTurns 60 = .ok (.ineg, 1) := by decide +kernel
theorem dX2_lookByTurns_61 : decode cX2_lookByTurns 61 = .ok (.istore 4, 2) := by decide +kernel
theorem dX2_lookByTurns_63 : decode cX2_lookByTurns 63 = .ok (.aload_n 0, 1) := by decide +kernel
theorem dX2_lookByTurns_64 : decode cX2_lookByTurns 64 = .ok (.getfield 15, 3) := by decide +kernel
theorem dX2_lookByTurns_67 : decode cX2_lookByTurns 67 = .ok (.iload_n 2, 1) := by decide +kernel
theorem dX2_lookByTurns_68 : decode cX2_lookByTurns 68 = .ok (.iload_n 3, 1) := by decide +kernel
theorem dX2_lookByTurns_69 : decode cX2_lookByTurns 69 = .ok (.invokestatic 43, 3) := by decide +kernel
theorem dX2_lookByTurns_72 : decode cX2_lookByTurns 72 = .ok (.aload_n 0, 1) := by decide +kernel
theorem dX2_lookByTurns_73 : decode cX2_lookByTurns 73 = .ok (.iload_n 2, 1) := by decide +kernel
theorem dX2_lookByTurns_74 : decode cX2_lookByTurns 74 = .ok (.iload_n 3, 1) := by decide +kernel
theorem dX2_lookByTurns_75 : decode cX2_lookByTurns 75 = .ok (.iload 4, 2) := by decide +kernel
theorem dX2_lookByTurns_77 : decode cX2_lookByTurns 77 = .ok (.iconst (-1), 1) := by decide +kernel
theorem dX2_lookByTurns_78 : decode cX2_lookByTurns 78 = .ok (.invokevirtual 47, 3) := by decide +kernel
theorem dX2_lookByTurns_81 : decode cX2_lookByTurns 81 = .ok (.iastore, 1) := by decide +kernel
theorem dX2_lookByTurns_82 : decode cX2_lookByTurns 82 = .ok (.iinc 3 1, 3) := by decide +kernel
theorem dX2_lookByTurns_85 : decode cX2_lookByTurns 85 = .ok (.goto (-65), 3) := by decide +kernel
theorem dX2_lookByTurns_88 : decode cX2_lookByTurns 88 = .ok (.iinc 2 1, 3) := by decide +kernel
theorem dX2_lookByTurns_91 : decode cX2_lookByTurns 91 = .ok (.goto (-84), 3) := by decide +kernel
theorem dX2_lookByTurns_94 : decode cX2_lookByTurns 94 = .ok (.return_, 1) := by decide +kernel
theorem dX2_bestBy_0 : decode cX2_bestBy 0 = .ok (.aload_n 0, 1) := by decide +kernel
theorem dX2_bestBy_1 : decode cX2_bestBy 1 = .ok (.getfield 15, 3) := by decide +kernel
theorem dX2_bestBy_4 : decode cX2_bestBy 4 = .ok (.iload_n 1, 1) := by decide +kernel
theorem dX2_bestBy_5 : decode cX2_bestBy 5 = .ok (.aload_n 0, 1) := by decide +kernel
theorem dX2_bestBy_6 : decode cX2_bestBy 6 = .ok (.getfield 18, 3) := by decide +kernel
theorem dX2_bestBy_9 : decode cX2_bestBy 9 = .ok (.getfield 26, 3) := by decide +kernel
theorem dX2_bestBy_12 : decode cX2_bestBy 12 = .ok (.invokestatic 43, 3) := by decide +kernel
theorem dX2_bestBy_15 : decode cX2_bestBy 15 = .ok (.iaload, 1) := by decide +kernel
theorem dX2_bestBy_16 : decode cX2_bestBy 16 = .ok (.ireturn, 1) := by decide +kernel
theorem dX2_rowAt_0 : decode cX2_rowAt 0 = .ok (.aload_n 0, 1) := by decide +kernel
theorem dX2_rowAt_1 : decode cX2_rowAt 1 = .ok (.getfield 18, 3) := by decide +kernel
theorem dX2_rowAt_4 : decode cX2_rowAt 4 = .ok (.getfield 26, 3) := by decide +kernel
theorem dX2_rowAt_7 : decode cX2_rowAt 7 = .ok (.istore_n 3, 1) := by decide +kernel
theorem dX2_rowAt_8 : decode cX2_rowAt 8 = .ok (.iconst 0, 1) := by decide +kernel
theorem dX2_rowAt_9 : decode cX2_rowAt 9 = .ok (.istore 4, 2) := by decide +kernel
theorem dX2_rowAt_11 : decode cX2_rowAt 11 = .ok (.iload 4, 2) := by decide +kernel
theorem dX2_rowAt_13 : decode cX2_rowAt 13 = .ok (.iload_n 1, 1) := by decide +kernel
theorem dX2_rowAt_14 : decode cX2_rowAt 14 = .ok (.if_icmp .ge 69, 3) := by decide +kernel
theorem dX2_rowAt_17 : decode cX2_rowAt 17 = .ok (.aload_n 0, 1) := by decide +kernel
theorem dX2_rowAt_18 : decode cX2_rowAt 18 = .ok (.getfield 15, 3) := by decide +kernel
theorem dX2_rowAt_21 : decode cX2_rowAt 21 = .ok (.iload_n 1, 1) := by decide +kernel
theorem dX2_rowAt_22 : decode cX2_rowAt 22 = .ok (.iload 4, 2) := by decide +kernel
theorem dX2_rowAt_24 : decode cX2_rowAt 24 = .ok (.isub, 1) := by decide +kernel
theorem dX2_rowAt_25 : decode cX2_rowAt 25 = .ok (.iload_n 3, 1) := by decide +kernel
theorem dX2_rowAt_26 : decode cX2_rowAt 26 = .ok (.invokestatic 43, 3) := by decide +kernel
theorem dX2_rowAt_29 : decode cX2_rowAt 29 = .ok (.iaload, 1) := by decide +kernel
theorem dX2_rowAt_30 : decode cX2_rowAt 30 = .ok (.istore 5, 2) := by decide +kernel
theorem dX2_rowAt_32 : decode cX2_rowAt 32 = .ok (.iload 5, 2) := by decide +kernel
theorem dX2_rowAt_34 : decode cX2_rowAt 34 = .ok (.ifCond .ne 7, 3) := by decide +kernel
theorem dX2_rowAt_37 : decode cX2_rowAt 37 = .ok (.iconst (-1), 1) := by decide +kernel
theorem dX2_rowAt_38 : decode cX2_rowAt 38 = .ok (.goto 15, 3) := by decide +kernel
theorem dX2_rowAt_41 : decode cX2_rowAt 41 = .ok (.aload_n 0, 1) := by decide +kernel
theorem dX2_rowAt_42 : decode cX2_rowAt 42 = .ok (.iload 5, 2) := by decide +kernel
theorem dX2_rowAt_44 : decode cX2_rowAt 44 = .ok (.iload_n 1, 1) := by decide +kernel
theorem dX2_rowAt_45 : decode cX2_rowAt 45 = .ok (.iload 4, 2) := by decide +kernel
theorem dX2_rowAt_47 : decode cX2_rowAt 47 = .ok (.isub, 1) := by decide +kernel
theorem dX2_rowAt_48 : decode cX2_rowAt 48 = .ok (.iload_n 3, 1) := by decide +kernel
theorem dX2_rowAt_49 : decode cX2_rowAt 49 = .ok (.iconst 1, 1) := by decide +kernel
theorem dX2_rowAt_50 : decode cX2_rowAt 50 = .ok (.invokevirtual 51, 3) := by decide +kernel
theorem dX2_rowAt_53 : decode cX2_rowAt 53 = .ok (.istore 6, 2) := by decide +kernel
theorem dX2_rowAt_55 : decode cX2_rowAt 55 = .ok (.iload 6, 2) := by decide +kernel
theorem dX2_rowAt_57 : decode cX2_rowAt 57 = .ok (.iconst (-1), 1) := by decide +kernel
theorem dX2_rowAt_58 : decode cX2_rowAt 58 = .ok (.if_icmp .eq 9, 3) := by decide +kernel
theorem dX2_rowAt_61 : decode cX2_rowAt 61 = .ok (.iload 4, 2) := by decide +kernel
theorem dX2_rowAt_63 : decode cX2_rowAt 63 = .ok (.iload_n 2, 1) := by decide +kernel
theorem dX2_rowAt_64 : decode cX2_rowAt 64 = .ok (.if_icmp .ne 6, 3) := by decide +kernel
theorem dX2_rowAt_67 : decode cX2_rowAt 67 = .ok (.iload 6, 2) := by decide +kernel
theorem dX2_rowAt_69 : decode cX2_rowAt 69 = .ok (.ireturn, 1) := by decide +kernel
theorem dX2_rowAt_70 : decode cX2_rowAt 70 = .ok (.iload_n 3, 1) := by decide +kernel
theorem dX2_rowAt_71 : decode cX2_rowAt 71 = .ok (.iconst 1, 1) := by decide +kernel
theorem dX2_rowAt_72 : decode cX2_rowAt 72 = .ok (.iload 6, 2) := by decide +kernel
theorem dX2_rowAt_74 : decode cX2_rowAt 74 = .ok (.ishl, 1) := by decide +kernel
theorem dX2_rowAt_75 : decode cX2_rowAt 75 = .ok (.ior, 1) := by decide +kernel
theorem dX2_rowAt_76 : decode cX2_rowAt 76 = .ok (.istore_n 3, 1) := by decide +kernel
theorem dX2_rowAt_77 : decode cX2_rowAt 77 = .ok (.iinc 4 1, 3) := by decide +kernel
theorem dX2_rowAt_80 : decode cX2_rowAt 80 = .ok (.goto (-69), 3) := by decide +kernel
theorem dX2_rowAt_83 : decode cX2_rowAt 83 = .ok (.iconst (-1), 1) := by decide +kernel
theorem dX2_rowAt_84 : decode cX2_rowAt 84 = .ok (.ireturn, 1) := by decide +kernel
theorem dX2_openingOf_0 : decode cX2_openingOf 0 = .ok (.aload_n 0, 1) := by decide +kernel
theorem dX2_openingOf_1 : decode cX2_openingOf 1 = .ok (.aload_n 0, 1) := by decide +kernel
theorem dX2_openingOf_2 : decode cX2_openingOf 2 = .ok (.iload_n 1, 1) := by decide +kernel
theorem dX2_openingOf_3 : decode cX2_openingOf 3 = .ok (.invokevirtual 54, 3) := by decide +kernel
theorem dX2_openingOf_6 : decode cX2_openingOf 6 = .ok (.iload_n 1, 1) := by decide +kernel
theorem dX2_openingOf_7 : decode cX2_openingOf 7 = .ok (.aload_n 0, 1) := by decide +kernel
theorem dX2_openingOf_8 : decode cX2_openingOf 8 = .ok (.getfield 18, 3) := by decide +kernel
theorem dX2_openingOf_11 : decode cX2_openingOf 11 = .ok (.getfield 26, 3) := by decide +kernel
theorem dX2_openingOf_14 : decode cX2_openingOf 14 = .ok (.iconst (-1), 1) := by decide +kernel
theorem dX2_openingOf_15 : decode cX2_openingOf 15 = .ok (.invokevirtual 51, 3) := by decide +kernel
theorem dX2_openingOf_18 : decode cX2_openingOf 18 = .ok (.ireturn, 1) := by decide +kernel
theorem dX2_prepare_0 : decode cX2_prepare 0 = .ok (.aload_n 0, 1) := by decide +kernel
theorem dX2_prepare_1 : decode cX2_prepare 1 = .ok (.getfield 18, 3) := by decide +kernel
theorem dX2_prepare_4 : decode cX2_prepare 4 = .ok (.getfield 26, 3) := by decide +kernel
theorem dX2_prepare_7 : decode cX2_prepare 7 = .ok (.istore_n 2, 1) := by decide +kernel
theorem dX2_prepare_8 : decode cX2_prepare 8 = .ok (.iload_n 2, 1) := by decide +kernel
theorem dX2_prepare_9 : decode cX2_prepare 9 = .ok (.iconst 1, 1) := by decide +kernel
theorem dX2_prepare_10 : decode cX2_prepare 10 = .ok (.aload_n 0, 1) := by decide +kernel
theorem dX2_prepare_11 : decode cX2_prepare 11 = .ok (.getfield 18, 3) := by decide +kernel
theorem dX2_prepare_14 : decode cX2_prepare 14 = .ok (.getfield 32, 3) := by decide +kernel
theorem dX2_prepare_17 : decode cX2_prepare 17 = .ok (.ishl, 1) := by decide +kernel
theorem dX2_prepare_18 : decode cX2_prepare 18 = .ok (.if_icmp .ge 72, 3) := by decide +kernel
theorem dX2_prepare_21 : decode cX2_prepare 21 = .ok (.aload_n 0, 1) := by decide +kernel
theorem dX2_prepare_22 : decode cX2_prepare 22 = .ok (.iload_n 2, 1) := by decide +kernel
theorem dX2_prepare_23 : decode cX2_prepare 23 = .ok (.invokevirtual 35, 3) := by decide +kernel
theorem dX2_prepare_26 : decode cX2_prepare 26 = .ok (.iconst 0, 1) := by decide +kernel
theorem dX2_prepare_27 : decode cX2_prepare 27 = .ok (.iload_n 1, 1) := by decide +kernel
theorem dX2_prepare_28 : decode cX2_prepare 28 = .ok (.invokestatic 39, 3) := by decide +kernel
theorem dX2_prepare_31 : decode cX2_prepare 31 = .ok (.ifCond .eq 53, 3) := by decide +kernel
theorem dX2_prepare_34 : decode cX2_prepare 34 = .ok (.aload_n 0, 1) := by decide +kernel
theorem dX2_prepare_35 : decode cX2_prepare 35 = .ok (.getfield 15, 3) := by decide +kernel
theorem dX2_prepare_38 : decode cX2_prepare 38 = .ok (.iconst 0, 1) := by decide +kernel
theorem dX2_prepare_39 : decode cX2_prepare 39 = .ok (.iload_n 2, 1) := by decide +kernel
theorem dX2_prepare_40 : decode cX2_prepare 40 = .ok (.invokestatic 43, 3) := by decide +kernel
theorem dX2_prepare_43 : decode cX2_prepare 43 = .ok (.iconst 0, 1) := by decide +kernel
theorem dX2_prepare_44 : decode cX2_prepare 44 = .ok (.iastore, 1) := by decide +kernel
theorem dX2_prepare_45 : decode cX2_prepare 45 = .ok (.iconst 0, 1) := by decide +kernel
theorem dX2_prepare_46 : decode cX2_prepare 46 = .ok (.istore_n 3, 1) := by decide +kernel
theorem dX2_prepare_47 : decode cX2_prepare 47 = .ok (.iload_n 3, 1) := by decide +kernel
theorem dX2_prepare_48 : decode cX2_prepare 48 = .ok (.aload_n 0, 1) := by decide +kernel
theorem dX2_prepare_49 : decode cX2_prepare 49 = .ok (.getfield 18, 3) := by decide +kernel
theorem dX2_prepare_52 : decode cX2_prepare 52 = .ok (.getfield 32, 3) := by decide +kernel
theorem dX2_prepare_55 : decode cX2_prepare 55 = .ok (.if_icmp .ge 29, 3) := by decide +kernel
theorem dX2_prepare_58 : decode cX2_prepare 58 = .ok (.aload_n 0, 1) := by decide +kernel
theorem dX2_prepare_59 : decode cX2_prepare 59 = .ok (.getfield 9, 3) := by decide +kernel
theorem dX2_prepare_62 : decode cX2_prepare 62 = .ok (.iload_n 2, 1) := by decide +kernel
theorem dX2_prepare_63 : decode cX2_prepare 63 = .ok (.bipush 7, 2) := by decide +kernel
theorem dX2_prepare_65 : decode cX2_prepare 65 = .ok (.imul, 1) := by decide +kernel
theorem dX2_prepare_66 : decode cX2_prepare 66 = .ok (.iload_n 3, 1) := by decide +kernel
theorem dX2_prepare_67 : decode cX2_prepare 67 = .ok (.iadd, 1) := by decide +kernel
theorem dX2_prepare_68 : decode cX2_prepare 68 = .ok (.aload_n 0, 1) := by decide +kernel
theorem dX2_prepare_69 : decode cX2_prepare 69 = .ok (.getfield 18, 3) := by decide +kernel
theorem dX2_prepare_72 : decode cX2_prepare 72 = .ok (.iload_n 2, 1) := by decide +kernel
theorem dX2_prepare_73 : decode cX2_prepare 73 = .ok (.iload_n 3, 1) := by decide +kernel
theorem dX2_prepare_74 : decode cX2_prepare 74 = .ok (.invokevirtual 57, 3) := by decide +kernel
theorem dX2_prepare_77 : decode cX2_prepare 77 = .ok (.iastore, 1) := by decide +kernel
theorem dX2_prepare_78 : decode cX2_prepare 78 = .ok (.iinc 3 1, 3) := by decide +kernel
theorem dX2_prepare_81 : decode cX2_prepare 81 = .ok (.goto (-34), 3) := by decide +kernel
theorem dX2_prepare_84 : decode cX2_prepare 84 = .ok (.iinc 2 1, 3) := by decide +kernel
theorem dX2_prepare_87 : decode cX2_prepare 87 = .ok (.goto (-79), 3) := by decide +kernel
theorem dX2_prepare_90 : decode cX2_prepare 90 = .ok (.return_, 1) := by decide +kernel
theorem dX2_claimsMore_0 : decode cX2_claimsMore 0 = .ok (.iload_n 1, 1) := by decide +kernel
theorem dX2_claimsMore_1 : decode cX2_claimsMore 1 = .ok (.aload_n 0, 1) := by decide +kernel
theorem dX2_claimsMore_2 : decode cX2_claimsMore 2 = .ok (.getfield 18, 3) := by decide +kernel
theorem dX2_claimsMore_5 : decode cX2_claimsMore 5 = .ok (.getfield 26, 3) := by decide +kernel
theorem dX2_claimsMore_8 : decode cX2_claimsMore 8 = .ok (.iand, 1) := by decide +kernel
theorem dX2_claimsMore_9 : decode cX2_claimsMore 9 = .ok (.aload_n 0, 1) := by decide +kernel
theorem dX2_claimsMore_10 : decode cX2_claimsMore 10 = .ok (.getfield 18, 3) := by decide +kernel
theorem dX2_claimsMore_13 : decode cX2_claimsMore 13 = .ok (.getfield 26, 3) := by decide +kernel
theorem dX2_claimsMore_16 : decode cX2_claimsMore 16 = .ok (.if_icmp .ne 7, 3) := by decide +kernel
theorem dX2_claimsMore_19 : decode cX2_claimsMore 19 = .ok (.iconst 1, 1) := by decide +kernel
theorem dX2_claimsMore_20 : decode cX2_claimsMore 20 = .ok (.goto 4, 3) := by decide +kernel
theorem dX2_claimsMore_23 : decode cX2_claimsMore 23 = .ok (.iconst 0, 1) := by decide +kernel
theorem dX2_claimsMore_24 : decode cX2_claimsMore 24 = .ok (.istore_n 2, 1) := by decide +kernel
theorem dX2_claimsMore_25 : decode cX2_claimsMore 25 = .ok (.iload_n 2, 1) := by decide +kernel
theorem dX2_claimsMore_26 : decode cX2_claimsMore 26 = .ok (.ifCond .eq 20, 3) := by decide +kernel
theorem dX2_claimsMore_29 : decode cX2_claimsMore 29 = .ok (.iload_n 1, 1) := by decide +kernel
theorem dX2_claimsMore_30 : decode cX2_claimsMore 30 = .ok (.aload_n 0, 1) := by decide +kernel
theorem dX2_claimsMore_31 : decode cX2_claimsMore 31 = .ok (.getfield 18, 3) := by decide +kernel
theorem dX2_claimsMore_34 : decode cX2_claimsMore 34 = .ok (.getfield 26, 3) := by decide +kernel
theorem dX2_claimsMore_37 : decode cX2_claimsMore 37 = .ok (.iconst (-1), 1) := by decide +kernel
theorem dX2_claimsMore_38 : decode cX2_claimsMore 38 = .ok (.ixor, 1) := by decide +kernel
theorem dX2_claimsMore_39 : decode cX2_claimsMore 39 = .ok (.iand, 1) := by decide +kernel
theorem dX2_claimsMore_40 : decode cX2_claimsMore 40 = .ok (.invokestatic 60, 3) := by decide +kernel
theorem dX2_claimsMore_43 : decode cX2_claimsMore 43 = .ok (.goto 4, 3) := by decide +kernel
theorem dX2_claimsMore_46 : decode cX2_claimsMore 46 = .ok (.iconst (-1), 1) := by decide +kernel
theorem dX2_claimsMore_47 : decode cX2_claimsMore 47 = .ok (.ireturn, 1) := by decide +kernel
theorem dX2_indexOf_0 : decode cX2_indexOf 0 = .ok (.iload_n 0, 1) := by decide +kernel
theorem dX2_indexOf_1 : decode cX2_indexOf 1 = .ok (.sipush 128, 3) := by decide +kernel
theorem dX2_indexOf_4 : decode cX2_indexOf 4 = .ok (.imul, 1) := by decide +kernel
theorem dX2_indexOf_5 : decode cX2_indexOf 5 = .ok (.iload_n 1, 1) := by decide +kernel
theorem dX2_indexOf_6 : decode cX2_indexOf 6 = .ok (.iadd, 1) := by decide +kernel
theorem dX2_indexOf_7 : decode cX2_indexOf 7 = .ok (.ireturn, 1) := by decide +kernel
theorem dX2_bestFrom_0 : decode cX2_bestFrom 0 = .ok (.iload_n 3, 1) := by decide +kernel
theorem dX2_bestFrom_1 : decode cX2_bestFrom 1 = .ok (.istore 5, 2) := by decide +kernel
theorem dX2_bestFrom_3 : decode cX2_bestFrom 3 = .ok (.iconst 0, 1) := by decide +kernel
theorem dX2_bestFrom_4 : decode cX2_bestFrom 4 = .ok (.istore 6, 2) := by decide +kernel
theorem dX2_bestFrom_6 : decode cX2_bestFrom 6 = .ok (.iload 6, 2) := by decide +kernel
theorem dX2_bestFrom_8 : decode cX2_bestFrom 8 = .ok (.aload_n 0, 1) := by decide +kernel
theorem dX2_bestFrom_9 : decode cX2_bestFrom 9 = .ok (.getfield 18, 3) := by decide +kernel
theorem dX2_bestFrom_12 : decode cX2_bestFrom 12 = .ok (.getfield 32, 3) := by decide +kernel
theorem dX2_bestFrom_15 : decode cX2_bestFrom 15 = .ok (.if_icmp .ge 35, 3) := by decide +kernel
theorem dX2_bestFrom_18 : decode cX2_bestFrom 18 = .ok (.iload_n 2, 1) := by decide +kernel
theorem dX2_bestFrom_19 : decode cX2_bestFrom 19 = .ok (.iconst 1, 1) := by decide +kernel
theorem dX2_bestFrom_20 : decode cX2_bestFrom 20 = .ok (.iload 6, 2) := by decide +kernel
theorem dX2_bestFrom_22 : decode cX2_bestFrom 22 = .ok (.ishl, 1) := by decide +kernel
theorem dX2_bestFrom_23 : decode cX2_bestFrom 23 = .ok (.iand, 1) := by decide +kernel
theorem dX2_bestFrom_24 : decode cX2_bestFrom 24 = .ok (.ifCond .ne 20, 3) := by decide +kernel
theorem dX2_bestFrom_27 : decode cX2_bestFrom 27 = .ok (.iload 5, 2) := by decide +kernel
theorem dX2_bestFrom_29 : decode cX2_bestFrom 29 = .ok (.aload_n 0, 1) := by decide +kernel
theorem dX2_bestFrom_30 : decode cX2_bestFrom 30 = .ok (.iload 6, 2) := by decide +kernel
theorem dX2_bestFrom_32 : decode cX2_bestFrom 32 = .ok (.iload_n 1, 1) := by decide +kernel
theorem dX2_bestFrom_33 : decode cX2_bestFrom 33 = .ok (.iload_n 2, 1) := by decide +kernel
theorem dX2_bestFrom_34 : decode cX2_bestFrom 34 = .ok (.iload 4, 2) := by decide +kernel
theorem dX2_bestFrom_36 : decode cX2_bestFrom 36 = .ok (.invokevirtual 65, 3) := by decide +kernel
theorem dX2_bestFrom_39 : decode cX2_bestFrom 39 = .ok (.invokestatic 68, 3) := by decide +kernel
theorem dX2_bestFrom_42 : decode cX2_bestFrom 42 = .ok (.istore 5, 2) := by decide +kernel
theorem dX2_bestFrom_44 : decode cX2_bestFrom 44 = .ok (.iinc 6 1, 3) := by decide +kernel
theorem dX2_bestFrom_47 : decode cX2_bestFrom 47 = .ok (.goto (-41), 3) := by decide +kernel
theorem dX2_bestFrom_50 : decode cX2_bestFrom 50 = .ok (.iload 5, 2) := by decide +kernel
theorem dX2_bestFrom_52 : decode cX2_bestFrom 52 = .ok (.ireturn, 1) := by decide +kernel
theorem dX2_firstFor_0 : decode cX2_firstFor 0 = .ok (.iconst 0, 1) := by decide +kernel
theorem dX2_firstFor_1 : decode cX2_firstFor 1 = .ok (.istore 5, 2) := by decide +kernel
theorem dX2_firstFor_3 : decode cX2_firstFor 3 = .ok (.iload 5, 2) := by decide +kernel
theorem dX2_firstFor_5 : decode cX2_firstFor 5 = .ok (.aload_n 0, 1) := by decide +kernel
theorem dX2_firstFor_6 : decode cX2_firstFor 6 = .ok (.getfield 18, 3) := by decide +kernel
theorem dX2_firstFor_9 : decode cX2_firstFor 9 = .ok (.getfield 32, 3) := by decide +kernel
theorem dX2_firstFor_12 : decode cX2_firstFor 12 = .ok (.if_icmp .ge 35, 3) := by decide +kernel
theorem dX2_firstFor_15 : decode cX2_firstFor 15 = .ok (.iload_n 3, 1) := by decide +kernel
theorem dX2_firstFor_16 : decode cX2_firstFor 16 = .ok (.iconst 1, 1) := by decide +kernel
theorem dX2_firstFor_17 : decode cX2_firstFor 17 = .ok (.iload 5, 2) := by decide +kernel
theorem dX2_firstFor_19 : decode cX2_firstFor 19 = .ok (.ishl, 1) := by decide +kernel
theorem dX2_firstFor_20 : decode cX2_firstFor 20 = .ok (.iand, 1) := by decide +kernel
theorem dX2_firstFor_21 : decode cX2_firstFor 21 = .ok (.ifCond .ne 20, 3) := by decide +kernel
theorem dX2_firstFor_24 : decode cX2_firstFor 24 = .ok (.aload_n 0, 1) := by decide +kernel
theorem dX2_firstFor_25 : decode cX2_firstFor 25 = .ok (.iload 5, 2) := by decide +kernel
theorem dX2_firstFor_27 : decode cX2_firstFor 27 = .ok (.iload_n 2, 1) := by decide +kernel
theorem dX2_firstFor_28 : decode cX2_firstFor 28 = .ok (.iload_n 3, 1) := by decide +kernel
theorem dX2_firstFor_29 : decode cX2_firstFor 29 = .ok (.iload 4, 2) := by decide +kernel
theorem dX2_firstFor_31 : decode cX2_firstFor 31 = .ok (.invokevirtual 65, 3) := by decide +kernel
theorem dX2_firstFor_34 : decode cX2_firstFor 34 = .ok (.iload_n 1, 1) := by decide +kernel
theorem dX2_firstFor_35 : decode cX2_firstFor 35 = .ok (.if_icmp .ne 6, 3) := by decide +kernel
theorem dX2_firstFor_38 : decode cX2_firstFor 38 = .ok (.iload 5, 2) := by decide +kernel
theorem dX2_firstFor_40 : decode cX2_firstFor 40 = .ok (.ireturn, 1) := by decide +kernel
theorem dX2_firstFor_41 : decode cX2_firstFor 41 = .ok (.iinc 5 1, 3) := by decide +kernel
theorem dX2_firstFor_44 : decode cX2_firstFor 44 = .ok (.goto (-41), 3) := by decide +kernel
theorem dX2_firstFor_47 : decode cX2_firstFor 47 = .ok (.iconst (-1), 1) := by decide +kernel
theorem dX2_firstFor_48 : decode cX2_firstFor 48 = .ok (.ireturn, 1) := by decide +kernel
theorem dX2_worthOf_0 : decode cX2_worthOf 0 = .ok (.aload_n 0, 1) := by decide +kernel
theorem dX2_worthOf_1 : decode cX2_worthOf 1 = .ok (.getfield 15, 3) := by decide +kernel
theorem dX2_worthOf_4 : decode cX2_worthOf 4 = .ok (.iload_n 2, 1) := by decide +kernel
theorem dX2_worthOf_5 : decode cX2_worthOf 5 = .ok (.iconst 1, 1) := by decide +kernel
theorem dX2_worthOf_6 : decode cX2_worthOf 6 = .ok (.isub, 1) := by decide +kernel
theorem dX2_worthOf_7 : decode cX2_worthOf 7 = .ok (.iload_n 3, 1) := by decide +kernel
theorem dX2_worthOf_8 : decode cX2_worthOf 8 = .ok (.iconst 1, 1) := by decide +kernel
theorem dX2_worthOf_9 : decode cX2_worthOf 9 = .ok (.iload_n 1, 1) := by decide +kernel
theorem dX2_worthOf_10 : decode cX2_worthOf 10 = .ok (.ishl, 1) := by decide +kernel
theorem dX2_worthOf_11 : decode cX2_worthOf 11 = .ok (.ior, 1) := by decide +kernel
theorem dX2_worthOf_12 : decode cX2_worthOf 12 = .ok (.invokestatic 43, 3) := by decide +kernel
theorem dX2_worthOf_15 : decode cX2_worthOf 15 = .ok (.iaload, 1) := by decide +kernel
theorem dX2_worthOf_16 : decode cX2_worthOf 16 = .ok (.istore 5, 2) := by decide +kernel
theorem dX2_worthOf_18 : decode cX2_worthOf 18 = .ok (.aload_n 0, 1) := by decide +kernel
theorem dX2_worthOf_19 : decode cX2_worthOf 19 = .ok (.getfield 9, 3) := by decide +kernel
theorem dX2_worthOf_22 : decode cX2_worthOf 22 = .ok (.iload_n 3, 1) := by decide +kernel
theorem dX2_worthOf_23 : decode cX2_worthOf 23 = .ok (.bipush 7, 2) := by decide +kernel
theorem dX2_worthOf_25 : decode cX2_worthOf 25 = .ok (.imul, 1) := by decide +kernel
theorem dX2_worthOf_26 : decode cX2_worthOf 26 = .ok (.iload_n 1, 1) := by decide +kernel
theorem dX2_worthOf_27 : decode cX2_worthOf 27 = .ok (.iadd, 1) := by decide +kernel
theorem dX2_worthOf_28 : decode cX2_worthOf 28 = .ok (.iaload, 1) := by decide +kernel
theorem dX2_worthOf_29 : decode cX2_worthOf 29 = .ok (.iload 4, 2) := by decide +kernel
theorem dX2_worthOf_31 : decode cX2_worthOf 31 = .ok (.iload 5, 2) := by decide +kernel
theorem dX2_worthOf_33 : decode cX2_worthOf 33 = .ok (.imul, 1) := by decide +kernel
theorem dX2_worthOf_34 : decode cX2_worthOf 34 = .ok (.iadd, 1) := by decide +kernel
theorem dX2_worthOf_35 : decode cX2_worthOf 35 = .ok (.ireturn, 1) := by decide +kernel
theorem dX3_init_0 : decode cX3_init 0 = .ok (.aload_n 0, 1) := by decide +kernel
theorem dX3_init_1 : decode cX3_init 1 = .ok (.invokespecial 1, 3) := by decide +kernel
theorem dX3_init_4 : decode cX3_init 4 = .ok (.aload_n 0, 1) := by decide +kernel
theorem dX3_init_5 : decode cX3_init 5 = .ok (.lconst 1, 1) := by decide +kernel
theorem dX3_init_6 : decode cX3_init 6 = .ok (.putfield 7, 3) := by decide +kernel
theorem dX3_init_9 : decode cX3_init 9 = .ok (.return_, 1) := by decide +kernel
theorem dX3_tell_0 : decode cX3_tell 0 = .ok (.lload_n 1, 1) := by decide +kernel
theorem dX3_tell_1 : decode cX3_tell 1 = .ok (.lload_n 3, 1) := by decide +kernel
theorem dX3_tell_2 : decode cX3_tell 2 = .ok (.invokestatic 13, 3) := by decide +kernel
theorem dX3_tell_5 : decode cX3_tell 5 = .ok (.lstore 5, 2) := by decide +kernel
theorem dX3_tell_7 : decode cX3_tell 7 = .ok (.lload 5, 2) := by decide +kernel
theorem dX3_tell_9 : decode cX3_tell 9 = .ok (.lconst 0, 1) := by decide +kernel
theorem dX3_tell_10 : decode cX3_tell 10 = .ok (.lcmp, 1) := by decide +kernel
theorem dX3_tell_11 : decode cX3_tell 11 = .ok (.ifCond .le 19, 3) := by decide +kernel
theorem dX3_tell_14 : decode cX3_tell 14 = .ok (.aload_n 0, 1) := by decide +kernel
theorem dX3_tell_15 : decode cX3_tell 15 = .ok (.lload_n 1, 1) := by decide +kernel
theorem dX3_tell_16 : decode cX3_tell 16 = .ok (.lload 5, 2) := by decide +kernel
theorem dX3_tell_18 : decode cX3_tell 18 = .ok (.ldiv, 1) := by decide +kernel
theorem dX3_tell_19 : decode cX3_tell 19 = .ok (.putfield 17, 3) := by decide +kernel
theorem dX3_tell_22 : decode cX3_tell 22 = .ok (.aload_n 0, 1) := by decide +kernel
theorem dX3_tell_23 : decode cX3_tell 23 = .ok (.lload_n 3, 1) := by decide +kernel
theorem dX3_tell_24 : decode cX3_tell 24 = .ok (.lload 5, 2) := by decide +kernel
theorem dX3_tell_26 : decode cX3_tell 26 = .ok (.ldiv, 1) := by decide +kernel
theorem dX3_tell_27 : decode cX3_tell 27 = .ok (.putfield 7, 3) := by decide +kernel
theorem dX3_tell_30 : decode cX3_tell 30 = .ok (.return_, 1) := by decide +kernel
theorem dX3_commonDivisor_0 : decode cX3_commonDivisor 0 = .ok (.lload_n 0, 1) := by decide +kernel
theorem dX3_commonDivisor_1 : decode cX3_commonDivisor 1 = .ok (.lstore 4, 2) := by decide +kernel
theorem dX3_commonDivisor_3 : decode cX3_commonDivisor 3 = .ok (.lload_n 2, 1) := by decide +kernel
theorem dX3_commonDivisor_4 : decode cX3_commonDivisor 4 = .ok (.lstore 6, 2) := by decide +kernel
theorem dX3_commonDivisor_6 : decode cX3_commonDivisor 6 = .ok (.iconst 0, 1) := by decide +kernel
theorem dX3_commonDivisor_7 : decode cX3_commonDivisor 7 = .ok (.istore 8, 2) := by decide +kernel
theorem dX3_commonDivisor_9 : decode cX3_commonDivisor 9 = .ok (.iload 8, 2) := by decide +kernel
theorem dX3_commonDivisor_11 : decode cX3_commonDivisor 11 = .ok (.sipush 200, 3) := by decide +kernel
theorem dX3_commonDivisor_14 : decode cX3_commonDivisor 14 = .ok (.if_icmp .ge 31, 3) := by decide +kernel
theorem dX3_commonDivisor_17 : decode cX3_commonDivisor 17 = .ok (.lload 6, 2) := by decide +kernel
theorem dX3_commonDivisor_19 : decode cX3_commonDivisor 19 = .ok (.lconst 0, 1) := by decide +kernel
theorem dX3_commonDivisor_20 : decode cX3_commonDivisor 20 = .ok (.lcmp, 1) := by decide +kernel
theorem dX3_commonDivisor_21 : decode cX3_commonDivisor 21 = .ok (.ifCond .eq 24, 3) := by decide +kernel
theorem dX3_commonDivisor_24 : decode cX3_commonDivisor 24 = .ok (.lload 4, 2) := by decide +kernel
theorem dX3_commonDivisor_26 : decode cX3_commonDivisor 26 = .ok (.lload 6, 2) := by decide +kernel
theorem dX3_commonDivisor_28 : decode cX3_commonDivisor 28 = .ok (.lrem, 1) := by decide +kernel
theorem dX3_commonDivisor_29 : decode cX3_commonDivisor 29 = .ok (.lstore 9, 2) := by decide +kernel
theorem dX3_commonDivisor_31 : decode cX3_commonDivisor 31 = .ok (.lload 6, 2) := by decide +kernel
theorem dX3_commonDivisor_33 : decode cX3_commonDivisor 33 = .ok (.lstore 4, 2) := by decide +kernel
theorem dX3_commonDivisor_35 : decode cX3_commonDivisor 35 = .ok (.lload 9, 2) := by decide +kernel
theorem dX3_commonDivisor_37 : decode cX3_commonDivisor 37 = .ok (.lstore 6, 2) := by decide +kernel
theorem dX3_commonDivisor_39 : decode cX3_commonDivisor 39 = .ok (.iinc 8 1, 3) := by decide +kernel
theorem dX3_commonDivisor_42 : decode cX3_commonDivisor 42 = .ok (.goto (-33), 3) := by decide +kernel
theorem dX3_commonDivisor_45 : decode cX3_commonDivisor 45 = .ok (.lload 4, 2) := by decide +kernel
theorem dX3_commonDivisor_47 : decode cX3_commonDivisor 47 = .ok (.lreturn, 1) := by decide +kernel
theorem dX4_init_0 : decode cX4_init 0 = .ok (.aload_n 0, 1) := by decide +kernel
theorem dX4_init_1 : decode cX4_init 1 = .ok (.invokespecial 3, 3) := by decide +kernel
theorem dX4_init_4 : decode cX4_init 4 = .ok (.aload_n 0, 1) := by decide +kernel
theorem dX4_init_5 : decode cX4_init 5 = .ok (.iconst 5, 1) := by decide +kernel
theorem dX4_init_6 : decode cX4_init 6 = .ok (.newarray .int, 2) := by decide +kernel
theorem dX4_init_8 : decode cX4_init 8 = .ok (.putfield 9, 3) := by decide +kernel
theorem dX4_init_11 : decode cX4_init 11 = .ok (.aload_n 0, 1) := by decide +kernel
theorem dX4_init_12 : decode cX4_init 12 = .ok (.bipush 60, 2) := by decide +kernel
theorem dX4_init_14 : decode cX4_init 14 = .ok (.newarray .int, 2) := by decide +kernel
theorem dX4_init_16 : decode cX4_init 16 = .ok (.putfield 17, 3) := by decide +kernel
theorem dX4_init_19 : decode cX4_init 19 = .ok (.aload_n 0, 1) := by decide +kernel
theorem dX4_init_20 : decode cX4_init 20 = .ok (.aload_n 1, 1) := by decide +kernel
theorem dX4_init_21 : decode cX4_init 21 = .ok (.putfield 20, 3) := by decide +kernel
theorem dX4_init_24 : decode cX4_init 24 = .ok (.aload_n 0, 1) := by decide +kernel
theorem dX4_init_25 : decode cX4_init 25 = .ok (.aload_n 2, 1) := by decide +kernel
theorem dX4_init_26 : decode cX4_init 26 = .ok (.putfield 24, 3) := by decide +kernel
theorem dX4_init_29 : decode cX4_init 29 = .ok (.return_, 1) := by decide +kernel
theorem dX4_pass_0 : decode cX4_pass 0 = .ok (.aload_n 0, 1) := by decide +kernel
theorem dX4_pass_1 : decode cX4_pass 1 = .ok (.aload_n 1, 1) := by decide +kernel
theorem dX4_pass_2 : decode cX4_pass 2 = .ok (.putfield 24, 3) := by decide +kernel
theorem dX4_pass_5 : decode cX4_pass 5 = .ok (.aload_n 0, 1) := by decide +kernel
theorem dX4_pass_6 : decode cX4_pass 6 = .ok (.iload_n 2, 1) := by decide +kernel
theorem dX4_pass_7 : decode cX4_pass 7 = .ok (.putfield 28, 3) := by decide +kernel
theorem dX4_pass_10 : decode cX4_pass 10 = .ok (.aload_n 0, 1) := by decide +kernel
theorem dX4_pass_11 : decode cX4_pass 11 = .ok (.iconst 0, 1) := by decide +kernel
theorem dX4_pass_12 : decode cX4_pass 12 = .ok (.putfield 32, 3) := by decide +kernel
theorem dX4_pass_15 : decode cX4_pass 15 = .ok (.aload_n 0, 1) := by decide +kernel
theorem dX4_pass_16 : decode cX4_pass 16 = .ok (.iconst 0, 1) := by decide +kernel
theorem dX4_pass_17 : decode cX4_pass 17 = .ok (.putfield 35, 3) := by decide +kernel
theorem dX4_pass_20 : decode cX4_pass 20 = .ok (.aload_n 0, 1) := by decide +kernel
theorem dX4_pass_21 : decode cX4_pass 21 = .ok (.iconst 0, 1) := by decide +kernel
theorem dX4_pass_22 : decode cX4_pass 22 = .ok (.putfield 38, 3) := by decide +kernel
theorem dX4_pass_25 : decode cX4_pass 25 = .ok (.aload_n 0, 1) := by decide +kernel
theorem dX4_pass_26 : decode cX4_pass 26 = .ok (.iconst 0, 1) := by decide +kernel
theorem dX4_pass_27 : decode cX4_pass 27 = .ok (.putfield 41, 3) := by decide +kernel
theorem dX4_pass_30 : decode cX4_pass 30 = .ok (.aload_n 0, 1) := by decide +kernel
theorem dX4_pass_31 : decode cX4_pass 31 = .ok (.iconst 0, 1) := by decide +kernel
theorem dX4_pass_32 : decode cX4_pass 32 = .ok (.putfield 44, 3) := by decide +kernel
theorem dX4_pass_35 : decode cX4_pass 35 = .ok (.aload_n 0, 1) := by decide +kernel
theorem dX4_pass_36 : decode cX4_pass 36 = .ok (.iconst 0, 1) := by decide +kernel
theorem dX4_pass_37 : decode cX4_pass 37 = .ok (.putfield 47, 3) := by decide +kernel
theorem dX4_pass_40 : decode cX4_pass 40 = .ok (.iconst 0, 1) := by decide +kernel
theorem dX4_pass_41 : decode cX4_pass 41 = .ok (.istore_n 3, 1) := by decide +kernel
theorem dX4_pass_42 : decode cX4_pass 42 = .ok (.iconst 0, 1) := by decide +kernel
theorem dX4_pass_43 : decode cX4_pass 43 = .ok (.istore 4, 2) := by decide +kernel
theorem dX4_pass_45 : decode cX4_pass 45 = .ok (.iload 4, 2) := by decide +kernel
theorem dX4_pass_47 : decode cX4_pass 47 = .ok (.ldc 51, 2) := by decide +kernel
theorem dX4_pass_49 : decode cX4_pass 49 = .ok (.if_icmp .ge 83, 3) := by decide +kernel
theorem dX4_pass_52 : decode cX4_pass 52 = .ok (.iload_n 3, 1) := by decide +kernel
theorem dX4_pass_53 : decode cX4_pass 53 = .ok (.aload_n 0, 1) := by decide +kernel
theorem dX4_pass_54 : decode cX4_pass 54 = .ok (.getfield 20, 3) := by decide +kernel
theorem dX4_pass_57 : decode cX4_pass 57 = .ok (.getfield 52, 3) := by decide +kernel
theorem dX4_pass_60 : decode cX4_pass 60 = .ok (.if_icmp .ge 72, 3) := by decide +kernel
theorem dX4_pass_63 : decode cX4_pass 63 = .ok (.aload_n 0, 1) := by decide +kernel
theorem dX4_pass_64 : decode cX4_pass 64 = .ok (.getfield 20, 3) := by decide +kernel
theorem dX4_pass_67 : decode cX4_pass 67 = .ok (.getfield 55, 3) := by decide +kernel
theorem dX4_pass_70 : decode cX4_pass 70 = .ok (.iload_n 3, 1) := by decide +kernel
theorem dX4_pass_71 : decode cX4_pass 71 = .ok (.iaload, 1) := by decide +kernel
theorem dX4_pass_72 : decode cX4_pass 72 = .ok (.bipush 21, 2) := by decide +kernel
theorem dX4_pass_74 : decode cX4_pass 74 = .ok (.if_icmp .ne 12, 3) := by decide +kernel
theorem dX4_pass_77 : decode cX4_pass 77 = .ok (.aload_n 0, 1) := by decide +kernel
theorem dX4_pass_78 : decode cX4_pass 78 = .ok (.iload_n 3, 1) := by decide +kernel
theorem dX4_pass_79 : decode cX4_pass 79 = .ok (.invokevirtual 58, 3) := by decide +kernel
theorem dX4_pass_82 : decode cX4_pass 82 = .ok (.istore_n 3, 1) := by decide +kernel
theorem dX4_pass_83 : decode cX4_pass 83 = .ok (.goto 43, 3) := by decide +kernel
theorem dX4_pass_86 : decode cX4_pass 86 = .ok (.aload_n 0, 1) := by decide +kernel
theorem dX4_pass_87 : decode cX4_pass 87 = .ok (.getfield 32, 3) := by decide +kernel
theorem dX4_pass_90 : decode cX4_pass 90 = .ok (.sipush 300, 3) := by decide +kernel
theorem dX4_pass_93 : decode cX4_pass 93 = .ok (.if_icmp .ge 27, 3) := by decide +kernel
theorem dX4_pass_96 : decode cX4_pass 96 = .ok (.aload_n 0, 1) := by decide +kernel
theorem dX4_pass_97 : decode cX4_pass 97 = .ok (.dup, 1) := by decide +kernel
theorem dX4_pass_98 : decode cX4_pass 98 = .ok (.getfield 32, 3) := by decide +kernel
theorem dX4_pass_101 : decode cX4_pass 101 = .ok (.iconst 1, 1) := by decide +kernel
theorem dX4_pass_102 : decode cX4_pass 102 = .ok (.iadd, 1) := by decide +kernel
theorem dX4_pass_103 : decode cX4_pass 103 = .ok (.putfield 32, 3) := by decide +kernel
theorem dX4_pass_106 : decode cX4_pass 106 = .ok (.aload_n 0, 1) := by decide +kernel
theorem dX4_pass_107 : decode cX4_pass 107 = .ok (.iload_n 3, 1) := by decide +kernel
theorem dX4_pass_108 : decode cX4_pass 108 = .ok (.invokevirtual 62, 3) := by decide +kernel
theorem dX4_pass_111 : decode cX4_pass 111 = .ok (.aload_n 0, 1) := by decide +kernel
theorem dX4_pass_112 : decode cX4_pass 112 = .ok (.iload_n 3, 1) := by decide +kernel
theorem dX4_pass_113 : decode cX4_pass 113 = .ok (.invokevirtual 66, 3) := by decide +kernel
theorem dX4_pass_116 : decode cX4_pass 116 = .ok (.istore_n 3, 1) := by decide +kernel
theorem dX4_pass_117 : decode cX4_pass 117 = .ok (.goto 9, 3) := by decide +kernel
theorem dX4_pass_120 : decode cX4_pass 120 = .ok (.aload_n 0, 1) := by decide +kernel
theorem dX4_pass_121 : decode cX4_pass 121 = .ok (.iconst 1, 1) := by decide +kernel
theorem dX4_pass_122 : decode cX4_pass 122 = .ok (.putfield 47, 3) := by decide +kernel
theorem dX4_pass_125 : decode cX4_pass 125 = .ok (.return_, 1) := by decide +kernel
theorem dX4_pass_126 : decode cX4_pass 126 = .ok (.iinc 4 1, 3) := by decide +kernel
theorem dX4_pass_129 : decode cX4_pass 129 = .ok (.goto (-84), 3) := by decide +kernel
theorem dX4_pass_132 : decode cX4_pass 132 = .ok (.return_, 1) := by decide +kernel
theorem dX4_keepNumbers_0 : decode cX4_keepNumbers 0 = .ok (.aload_n 0, 1) := by decide +kernel
theorem dX4_keepNumbers_1 : decode cX4_keepNumbers 1 = .ok (.getfield 9, 3) := by decide +kernel
theorem dX4_keepNumbers_4 : decode cX4_keepNumbers 4 = .ok (.iconst 0, 1) := by decide +kernel
theorem dX4_keepNumbers_5 : decode cX4_keepNumbers 5 = .ok (.aload_n 0, 1) := by decide +kernel
theorem dX4_keepNumbers_6 : decode cX4_keepNumbers 6 = .ok (.getfield 35, 3) := by decide +kernel
theorem dX4_keepNumbers_9 : decode cX4_keepNumbers 9 = .ok (.iastore, 1) := by decide +kernel
theorem dX4_keepNumbers_10 : decode cX4_keepNumbers 10 = .ok (.aload_n 0, 1) := by decide +kernel
theorem dX4_keepNumbers_11 : decode cX4_keepNumbers 11 = .ok (.getfield 9, 3) := by decide +kernel
theorem dX4_keepNumbers_14 : decode cX4_keepNumbers 14 = .ok (.iconst 1, 1) := by decide +kernel
theorem dX4_keepNumbers_15 : decode cX4_keepNumbers 15 = .ok (.aload_n 0, 1) := by decide +kernel
theorem dX4_keepNumbers_16 : decode cX4_keepNumbers 16 = .ok (.getfield 38, 3) := by decide +kernel
theorem dX4_keepNumbers_19 : decode cX4_keepNumbers 19 = .ok (.iastore, 1) := by decide +kernel
theorem dX4_keepNumbers_20 : decode cX4_keepNumbers 20 = .ok (.aload_n 0, 1) := by decide +kernel
theorem dX4_keepNumbers_21 : decode cX4_keepNumbers 21 = .ok (.getfield 9, 3) := by decide +kernel
theorem dX4_keepNumbers_24 : decode cX4_keepNumbers 24 = .ok (.iconst 2, 1) := by decide +kernel
theorem dX4_keepNumbers_25 : decode cX4_keepNumbers 25 = .ok (.aload_n 0, 1) := by decide +kernel
theorem dX4_keepNumbers_26 : decode cX4_keepNumbers 26 = .ok (.getfield 41, 3) := by decide +kernel
theorem dX4_keepNumbers_29 : decode cX4_keepNumbers 29 = .ok (.iastore, 1) := by decide +kernel
theorem dX4_keepNumbers_30 : decode cX4_keepNumbers 30 = .ok (.aload_n 0, 1) := by decide +kernel
theorem dX4_keepNumbers_31 : decode cX4_keepNumbers 31 = .ok (.getfield 9, 3) := by decide +kernel
theorem dX4_keepNumbers_34 : decode cX4_keepNumbers 34 = .ok (.iconst 3, 1) := by decide +kernel
theorem dX4_keepNumbers_35 : decode cX4_keepNumbers 35 = .ok (.aload_n 0, 1) := by decide +kernel
theorem dX4_keepNumbers_36 : decode cX4_keepNumbers 36 = .ok (.getfield 44, 3) := by decide +kernel
theorem dX4_keepNumbers_39 : decode cX4_keepNumbers 39 = .ok (.iastore, 1) := by decide +kernel
theorem dX4_keepNumbers_40 : decode cX4_keepNumbers 40 = .ok (.aload_n 0, 1) := by decide +kernel
theorem dX4_keepNumbers_41 : decode cX4_keepNumbers 41 = .ok (.getfield 9, 3) := by decide +kernel
theorem dX4_keepNumbers_44 : decode cX4_keepNumbers 44 = .ok (.iconst 4, 1) := by decide +kernel
theorem dX4_keepNumbers_45 : decode cX4_keepNumbers 45 = .ok (.aload_n 0, 1) := by decide +kernel
theorem dX4_keepNumbers_46 : decode cX4_keepNumbers 46 = .ok (.getfield 47, 3) := by decide +kernel
theorem dX4_keepNumbers_49 : decode cX4_keepNumbers 49 = .ok (.ifCond .eq 7, 3) := by decide +kernel
theorem dX4_keepNumbers_52 : decode cX4_keepNumbers 52 = .ok (.iconst 1, 1) := by decide +kernel
theorem dX4_keepNumbers_53 : decode cX4_keepNumbers 53 = .ok (.goto 4, 3) := by decide +kernel
theorem dX4_keepNumbers_56 : decode cX4_keepNumbers 56 = .ok (.iconst 0, 1) := by decide +kernel
theorem dX4_keepNumbers_57 : decode cX4_keepNumbers 57 = .ok (.iastore, 1) := by decide +kernel
theorem dX4_keepNumbers_58 : decode cX4_keepNumbers 58 = .ok (.aload_n 0, 1) := by decide +kernel
theorem dX4_keepNumbers_59 : decode cX4_keepNumbers 59 = .ok (.iconst 1, 1) := by decide +kernel
theorem dX4_keepNumbers_60 : decode cX4_keepNumbers 60 = .ok (.putfield 69, 3) := by decide +kernel
theorem dX4_keepNumbers_63 : decode cX4_keepNumbers 63 = .ok (.return_, 1) := by decide +kernel
theorem dX4_behindEnd_0 : decode cX4_behindEnd 0 = .ok (.aload_n 0, 1) := by decide +kernel
theorem dX4_behindEnd_1 : decode cX4_behindEnd 1 = .ok (.getfield 20, 3) := by decide +kernel
theorem dX4_behindEnd_4 : decode cX4_behindEnd 4 = .ok (.getfield 72, 3) := by decide +kernel
theorem dX4_behindEnd_7 : decode cX4_behindEnd 7 = .ok (.iload_n 1, 1) := by decide +kernel
theorem dX4_behindEnd_8 : decode cX4_behindEnd 8 = .ok (.iaload, 1) := by decide +kernel
theorem dX4_behindEnd_9 : decode cX4_behindEnd 9 = .ok (.istore_n 2, 1) := by decide +kernel
theorem dX4_behindEnd_10 : decode cX4_behindEnd 10 = .ok (.aload_n 0, 1) := by decide +kernel
theorem dX4_behindEnd_11 : decode cX4_behindEnd 11 = .ok (.getfield 20, 3) := by decide +kernel
theorem dX4_behindEnd_14 : decode cX4_behindEnd 14 = .ok (.getfield 55, 3) := by decide +kernel
theorem dX4_behindEnd_17 : decode cX4_behindEnd 17 = .ok (.iload_n 2, 1) := by decide +kernel
theorem dX4_behindEnd_18 : decode cX4_behindEnd 18 = .ok (.iaload, 1) := by decide +kernel
theorem dX4_behindEnd_19 : decode cX4_behindEnd 19 = .ok (.bipush 20, 2) := by decide +kernel
theorem dX4_behindEnd_21 : decode cX4_behindEnd 21 = .ok (.if_icmp .eq 7, 3) := by decide +kernel
theorem dX4_behindEnd_24 : decode cX4_behindEnd 24 = .ok (.iload_n 1, 1) := by decide +kernel
theorem dX4_behindEnd_25 : decode cX4_behindEnd 25 = .ok (.iconst 1, 1) := by decide +kernel
theorem dX4_behindEnd_26 : decode cX4_behindEnd 26 = .ok (.iadd, 1) := by decide +kernel
theorem dX4_behindEnd_27 : decode cX4_behindEnd 27 = .ok (.ireturn, 1) := by decide +kernel
theorem dX4_behindEnd_28 : decode cX4_behindEnd 28 = .ok (.aload_n 0, 1) := by decide +kernel
theorem dX4_behindEnd_29 : decode cX4_behindEnd 29 = .ok (.getfield 17, 3) := by decide +kernel
theorem dX4_behindEnd_32 : decode cX4_behindEnd 32 = .ok (.iload_n 2, 1) := by decide +kernel
theorem dX4_behindEnd_33 : decode cX4_behindEnd 33 = .ok (.dup2, 1) := by decide +kernel
theorem dX4_behindEnd_34 : decode cX4_behindEnd 34 = .ok (.iaload, 1) := by decide +kernel
theorem dX4_behindEnd_35 : decode cX4_behindEnd 35 = .ok (.iconst 1, 1) := by decide +kernel
theorem dX4_behindEnd_36 : decode cX4_behindEnd 36 = .ok (.isub, 1) := by decide +kernel
theorem dX4_behindEnd_37 : decode cX4_behindEnd 37 = .ok (.iastore, 1) := by decide +kernel
theorem dX4_behindEnd_38 : decode cX4_behindEnd 38 = .ok (.aload_n 0, 1) := by decide +kernel
theorem dX4_behindEnd_39 : decode cX4_behindEnd 39 = .ok (.getfield 17, 3) := by decide +kernel
theorem dX4_behindEnd_42 : decode cX4_behindEnd 42 = .ok (.iload_n 2, 1) := by decide +kernel
theorem dX4_behindEnd_43 : decode cX4_behindEnd 43 = .ok (.iaload, 1) := by decide +kernel
theorem dX4_behindEnd_44 : decode cX4_behindEnd 44 = .ok (.ifCond .le 9, 3) := by decide +kernel
theorem dX4_behindEnd_47 : decode cX4_behindEnd 47 = .ok (.iload_n 2, 1) := by decide +kernel
theorem dX4_behindEnd_48 : decode cX4_behindEnd 48 = .ok (.iconst 1, 1) := by decide +kernel
theorem dX4_behindEnd_49 : decode cX4_behindEnd 49 = .ok (.iadd, 1) := by decide +kernel
theorem dX4_behindEnd_50 : decode cX4_behindEnd 50 = .ok (.goto 6, 3) := by decide +kernel
theorem dX4_behindEnd_53 : decode cX4_behindEnd 53 = .ok (.iload_n 1, 1) := by decide +kernel
theorem dX4_behindEnd_54 : decode cX4_behindEnd 54 = .ok (.iconst 1, 1) := by decide +kernel
theorem dX4_behindEnd_55 : decode cX4_behindEnd 55 = .ok (.iadd, 1) := by decide +kernel
theorem dX4_behindEnd_56 : decode cX4_behindEnd 56 = .ok (.ireturn, 1) := by decide +kernel
theorem dX4_behindStep_0 : decode cX4_behindStep 0 = .ok (.aload_n 0, 1) := by decide +kernel
theorem dX4_behindStep_1 : decode cX4_behindStep 1 = .ok (.getfield 20, 3) := by decide +kernel
theorem dX4_behindStep_4 : decode cX4_behindStep 4 = .ok (.getfield 55, 3) := by decide +kernel
theorem dX4_behindStep_7 : decode cX4_behindStep 7 = .ok (.iload_n 1, 1) := by decide +kernel
theorem dX4_behindStep_8 : decode cX4_behindStep 8 = .ok (.iaload, 1) := by decide +kernel
theorem dX4_behindStep_9 : decode cX4_behindStep 9 = .ok (.lookupswitch 104 #[(2, 51), (11, 51), (19, 51), (20, 77), (22, 96)], 51) := by decide +kernel
theorem dX4_behindStep_60 : decode cX4_behindStep 60 = .ok (.aload_n 0, 1) := by decide +kernel
theorem dX4_behindStep_61 : decode cX4_behindStep 61 = .ok (.iload_n 1, 1) := by decide +kernel
theorem dX4_behindStep_62 : decode cX4_behindStep 62 = .ok (.invokevirtual 75, 3) := by decide +kernel
theorem dX4_behindStep_65 : decode cX4_behindStep 65 = .ok (.ifCond .eq 9, 3) := by decide +kernel
theorem dX4_behindStep_68 : decode cX4_behindStep 68 = .ok (.iload_n 1, 1) := by decide +kernel
theorem dX4_behindStep_69 : decode cX4_behindStep 69 = .ok (.iconst 1, 1) := by decide +kernel
theorem dX4_behindStep_70 : decode cX4_behindStep 70 = .ok (.iadd, 1) := by decide +kernel
theorem dX4_behindStep_71 : decode cX4_behindStep 71 = .ok (.goto 14, 3) := by decide +kernel
theorem dX4_behindStep_74 : decode cX4_behindStep 74 = .ok (.aload_n 0, 1) := by decide +kernel
theorem dX4_behindStep_75 : decode cX4_behindStep 75 = .ok (.getfield 20, 3) := by decide +kernel
theorem dX4_behindStep_78 : decode cX4_behindStep 78 = .ok (.getfield 72, 3) := by decide +kernel
theorem dX4_behindStep_81 : decode cX4_behindStep 81 = .ok (.iload_n 1, 1) := by decide +kernel
theorem dX4_behindStep_82 : decode cX4_behindStep 82 = .ok (.iaload, 1) := by decide +kernel
theorem dX4_behindStep_83 : decode cX4_behindStep 83 = .ok (.iconst 1, 1) := by decide +kernel
theorem dX4_behindStep_84 : decode cX4_behindStep 84 = .ok (.iadd, 1) := by decide +kernel
theorem dX4_behindStep_85 : decode cX4_behindStep 85 = .ok (.ireturn, 1) := by decide +kernel
theorem dX4_behindStep_86 : decode cX4_behindStep 86 = .ok (.aload_n 0, 1) := by decide +kernel
theorem dX4_behindStep_87 : decode cX4_behindStep 87 = .ok (.getfield 17, 3) := by decide +kernel
theorem dX4_behindStep_90 : decode cX4_behindStep 90 = .ok (.iload_n 1, 1) := by decide +kernel
theorem dX4_behindStep_91 : decode cX4_behindStep 91 = .ok (.aload_n 0, 1) := by decide +kernel
theorem dX4_behindStep_92 : decode cX4_behindStep 92 = .ok (.getfield 20, 3) := by decide +kernel
theorem dX4_behindStep_95 : decode cX4_behindStep 95 = .ok (.getfield 79, 3) := by decide +kernel
theorem dX4_behindStep_98 : decode cX4_behindStep 98 = .ok (.iload_n 1, 1) := by decide +kernel
theorem dX4_behindStep_99 : decode cX4_behindStep 99 = .ok (.iaload, 1) := by decide +kernel
theorem dX4_behindStep_100 : decode cX4_behindStep 100 = .ok (.iastore, 1) := by decide +kernel
theorem dX4_behindStep_101 : decode cX4_behindStep 101 = .ok (.iload_n 1, 1) := by decide +kernel
theorem dX4_behindStep_102 : decode cX4_behindStep 102 = .ok (.iconst 1, 1) := by decide +kernel
theorem dX4_behindStep_103 : decode cX4_behindStep 103 = .ok (.iadd, 1) := by decide +kernel
theorem dX4_behindStep_104 : decode cX4_behindStep 104 = .ok (.ireturn, 1) := by decide +kernel
theorem dX4_behindStep_105 : decode cX4_behindStep 105 = .ok (.aload_n 0, 1) := by decide +kernel
theorem dX4_behindStep_106 : decode cX4_behindStep 106 = .ok (.getfield 20, 3) := by decide +kernel
theorem dX4_behindStep_109 : decode cX4_behindStep 109 = .ok (.getfield 52, 3) := by decide +kernel
theorem dX4_behindStep_112 : decode cX4_behindStep 112 = .ok (.ireturn, 1) := by decide +kernel
theorem dX4_behindStep_113 : decode cX4_behindStep 113 = .ok (.iload_n 1, 1) := by decide +kernel
theorem dX4_behindStep_114 : decode cX4_behindStep 114 = .ok (.iconst 1, 1) := by decide +kernel
theorem dX4_behindStep_115 : decode cX4_behindStep 115 = .ok (.iadd, 1) := by decide +kernel
theorem dX4_behindStep_116 : decode cX4_behindStep 116 = .ok (.ireturn, 1) := by decide +kernel
theorem dX4_holds_0 : decode cX4_holds 0 = .ok (.aload_n 0, 1) := by decide +kernel
theorem dX4_holds_1 : decode cX4_holds 1 = .ok (.getfield 20, 3) := by decide +kernel
theorem dX4_holds_4 : decode cX4_holds 4 = .ok (.getfield 82, 3) := by decide +kernel
theorem dX4_holds_7 : decode cX4_holds 7 = .ok (.iload_n 1, 1) := by decide +kernel
theorem dX4_holds_8 : decode cX4_holds 8 = .ok (.iaload, 1) := by decide +kernel
theorem dX4_holds_9 : decode cX4_holds 9 = .ok (.istore_n 2, 1) := by decide +kernel
theorem dX4_holds_10 : decode cX4_holds 10 = .ok (.aload_n 0, 1) := by decide +kernel
theorem dX4_holds_11 : decode cX4_holds 11 = .ok (.getfield 20, 3) := by decide +kernel
theorem dX4_holds_14 : decode cX4_holds 14 = .ok (.getfield 55, 3) := by decide +kernel
theorem dX4_holds_17 : decode cX4_holds 17 = .ok (.iload_n 1, 1) := by decide +kernel
theorem dX4_holds_18 : decode cX4_holds 18 = .ok (.iaload, 1) := by decide +kernel
theorem dX4_holds_19 : decode cX4_holds 19 = .ok (.lookupswitch 49 #[(2, 34), (19, 25)], 25) := by decide +kernel
theorem dX4_holds_44 : decode cX4_holds 44 = .ok (.aload_n 0, 1) := by decide +kernel
theorem dX4_holds_45 : decode cX4_holds 45 = .ok (.getfield 24, 3) := by decide +kernel
theorem dX4_holds_48 : decode cX4_holds 48 = .ok (.iload_n 2, 1) := by decide +kernel
theorem dX4_holds_49 : decode cX4_holds 49 = .ok (.invokevirtual 85, 3) := by decide +kernel
theorem dX4_holds_52 : decode cX4_holds 52 = .ok (.ireturn, 1) := by decide +kernel
theorem dX4_holds_53 : decode cX4_holds 53 = .ok (.aload_n 0, 1) := by decide +kernel
theorem dX4_holds_54 : decode cX4_holds 54 = .ok (.aload_n 0, 1) := by decide +kernel
theorem dX4_holds_55 : decode cX4_holds 55 = .ok (.getfield 24, 3) := by decide +kernel
theorem dX4_holds_58 : decode cX4_holds 58 = .ok (.getfield 90, 3) := by decide +kernel
theorem dX4_holds_61 : decode cX4_holds 61 = .ok (.iload_n 2, 1) := by decide +kernel
theorem dX4_holds_62 : decode cX4_holds 62 = .ok (.iaload, 1) := by decide +kernel
theorem dX4_holds_63 : decode cX4_holds 63 = .ok (.iload_n 1, 1) := by decide +kernel
theorem dX4_holds_64 : decode cX4_holds 64 = .ok (.invokevirtual 93, 3) := by decide +kernel
theorem dX4_holds_67 : decode cX4_holds 67 = .ok (.ireturn, 1) := by decide +kernel
theorem dX4_holds_68 : decode cX4_holds 68 = .ok (.aload_n 0, 1) := by decide +kernel
theorem dX4_holds_69 : decode cX4_holds 69 = .ok (.aload_n 0, 1) := by decide +kernel
theorem dX4_holds_70 : decode cX4_holds 70 = .ok (.getfield 24, 3) := by decide +kernel
theorem dX4_holds_73 : decode cX4_holds 73 = .ok (.getfield 97, 3) := by decide +kernel
theorem dX4_holds_76 : decode cX4_holds 76 = .ok (.iload_n 2, 1) := by decide +kernel
theorem dX4_holds_77 : decode cX4_holds 77 = .ok (.iaload, 1) := by decide +kernel
theorem dX4_holds_78 : decode cX4_holds 78 = .ok (.iload_n 1, 1) := by decide +kernel
theorem dX4_holds_79 : decode cX4_holds 79 = .ok (.invokevirtual 93, 3) := by decide +kernel
theorem dX4_holds_82 : decode cX4_holds 82 = .ok (.ireturn, 1) := by decide +kernel
theorem dX4_compares_0 : decode cX4_compares 0 = .ok (.aload_n 0, 1) := by decide +kernel
theorem dX4_compares_1 : decode cX4_compares 1 = .ok (.getfield 20, 3) := by decide +kernel
theorem dX4_compares_4 : decode cX4_compares 4 = .ok (.getfield 100, 3) := by decide +kernel
theorem dX4_compares_7 : decode cX4_compares 7 = .ok (.iload_n 2, 1) := by decide +kernel
theorem dX4_compares_8 : decode cX4_compares 8 = .ok (.iaload, 1) := by decide +kernel
theorem dX4_compares_9 : decode cX4_compares 9 = .ok (.lookupswitch 65 #[(60, 27), (62, 46)], 27) := by decide +kernel
theorem dX4_compares_36 : decode cX4_compares 36 = .ok (.iload_n 1, 1) := by decide +kernel
theorem dX4_compares_37 : decode cX4_compares 37 = .ok (.aload_n 0, 1) := by decide +kernel
theorem dX4_compares_38 : decode cX4_compares 38 = .ok (.getfield 20, 3) := by decide +kernel
theorem dX4_compares_41 : decode cX4_compares 41 = .ok (.getfield 79, 3) := by decide +kernel
theorem dX4_compares_44 : decode cX4_compares 44 = .ok (.iload_n 2, 1) := by decide +kernel
theorem dX4_compares_45 : decode cX4_compares 45 = .ok (.iaload, 1) := by decide +kernel
theorem dX4_compares_46 : decode cX4_compares 46 = .ok (.if_icmp .ge 7, 3) := by decide +kernel
theorem dX4_compares_49 : decode cX4_compares 49 = .ok (.iconst 1, 1) := by decide +kernel
theorem dX4_compares_50 : decode cX4_compares 50 = .ok (.goto 4, 3) := by decide +kernel
theorem dX4_compares_53 : decode cX4_compares 53 = .ok (.iconst 0, 1) := by decide +kernel
theorem dX4_compares_54 : decode cX4_compares 54 = .ok (.ireturn, 1) := by decide +kernel
theorem dX4_compares_55 : decode cX4_compares 55 = .ok (.iload_n 1, 1) := by decide +kernel
theorem dX4_compares_56 : decode cX4_compares 56 = .ok (.aload_n 0, 1) := by decide +kernel
theorem dX4_compares_57 : decode cX4_compares 57 = .ok (.getfield 20, 3) := by decide +kernel
theorem dX4_compares_60 : decode cX4_compares 60 = .ok (.getfield 79, 3) := by decide +kernel
theorem dX4_compares_63 : decode cX4_compares 63 = .ok (.iload_n 2, 1) := by decide +kernel
theorem dX4_compares_64 : decode cX4_compares 64 = .ok (.iaload, 1) := by decide +kernel
theorem dX4_compares_65 : decode cX4_compares 65 = .ok (.if_icmp .le 7, 3) := by decide +kernel
theorem dX4_compares_68 : decode cX4_compares 68 = .ok (.iconst 1, 1) := by decide +kernel
theorem dX4_compares_69 : decode cX4_compares 69 = .ok (.goto 4, 3) := by decide +kernel
theorem dX4_compares_72 : decode cX4_compares 72 = .ok (.iconst 0, 1) := by decide +kernel
theorem dX4_compares_73 : decode cX4_compares 73 = .ok (.ireturn, 1) := by decide +kernel
theorem dX4_compares_74 : decode cX4_compares 74 = .ok (.iload_n 1, 1) := by decide +kernel
theorem dX4_compares_75 : decode cX4_compares 75 = .ok (.aload_n 0, 1) := by decide +kernel
theorem dX4_compares_76 : decode cX4_compares 76 = .ok (.getfield 20, 3) := by decide +kernel
theorem dX4_compares_79 : decode cX4_compares 79 = .ok (.getfield 79, 3) := by decide +kernel
theorem dX4_compares_82 : decode cX4_compares 82 = .ok (.iload_n 2, 1) := by decide +kernel
theorem dX4_compares_83 : decode cX4_compares 83 = .ok (.iaload, 1) := by decide +kernel
theorem dX4_compares_84 : decode cX4_compares 84 = .ok (.if_icmp .ne 7, 3) := by decide +kernel
theorem dX4_compares_87 : decode cX4_compares 87 = .ok (.iconst 1, 1) := by decide +kernel
theorem dX4_compares_88 : decode cX4_compares 88 = .ok (.goto 4, 3) := by decide +kernel
theorem dX4_compares_91 : decode cX4_compares 91 = .ok (.iconst 0, 1) := by decide +kernel
theorem dX4_compares_92 : decode cX4_compares 92 = .ok (.ireturn, 1) := by decide +kernel
theorem dX4_act_0 : decode cX4_act 0 = .ok (.aload_n 0, 1) := by decide +kernel
theorem dX4_act_1 : decode cX4_act 1 = .ok (.getfield 20, 3) := by decide +kernel
theorem dX4_act_4 : decode cX4_act 4 = .ok (.getfield 82, 3) := by decide +kernel
theorem dX4_act_7 : decode cX4_act 7 = .ok (.iload_n 1, 1) := by decide +kernel
theorem dX4_act_8 : decode cX4_act 8 = .ok (.iaload, 1) := by decide +kernel
theorem dX4_act_9 : decode cX4_act 9 = .ok (.istore_n 2, 1) := by decide +kernel
theorem dX4_act_10 : decode cX4_act 10 = .ok (.aload_n 0, 1) := by decide +kernel
theorem dX4_act_11 : decode cX4_act 11 = .ok (.getfield 20, 3) := by decide +kernel
theorem dX4_act_14 : decode cX4_act 14 = .ok (.getfield 79, 3) := by decide +kernel
theorem dX4_act_17 : decode cX4_act 17 = .ok (.iload_n 1, 1) := by decide +kernel
theorem dX4_act_18 : decode cX4_act 18 = .ok (.iaload, 1) := by decide +kernel
theorem dX4_act_19 : decode cX4_act 19 = .ok (.istore_n 3, 1) := by decide +kernel
theorem dX4_act_20 : decode cX4_act 20 = .ok (.aload_n 0, 1) := by decide +kernel
theorem dX4_act_21 : decode cX4_act 21 = .ok (.getfield 20, 3) := by decide +kernel
theorem dX4_act_24 : decode cX4_act 24 = .ok (.getfield 55, 3) := by decide +kernel
theorem dX4_act_27 : decode cX4_act 27 = .ok (.iload_n 1, 1) := by decide +kernel
theorem dX4_act_28 : decode cX4_act 28 = .ok (.iaload, 1) := by decide +kernel
theorem dX4_act_29 : decode cX4_act 29 = .ok (.tableswitch 86 12 17 #[39, 47, 56, 64, 72, 79], 39) := by decide +kernel
theorem dX4_act_68 : decode cX4_act 68 = .ok (.aload_n 0, 1) := by decide +kernel
theorem dX4_act_69 : decode cX4_act 69 = .ok (.iload_n 2, 1) := by decide +kernel
theorem dX4_act_70 : decode cX4_act 70 = .ok (.invokevirtual 103, 3) := by decide +kernel
theorem dX4_act_73 : decode cX4_act 73 = .ok (.goto 42, 3) := by decide +kernel
theorem dX4_act_76 : decode cX4_act 76 = .ok (.aload_n 0, 1) := by decide +kernel
theorem dX4_act_77 : decode cX4_act 77 = .ok (.iload_n 2, 1) := by decide +kernel
theorem dX4_act_78 : decode cX4_act 78 = .ok (.iload_n 3, 1) := by decide +kernel
theorem dX4_act_79 : decode cX4_act 79 = .ok (.invokevirtual 106, 3) := by decide +kernel
theorem dX4_act_82 : decode cX4_act 82 = .ok (.goto 33, 3) := by decide +kernel
theorem dX4_act_85 : decode cX4_act 85 = .ok (.aload_n 0, 1) := by decide +kernel
theorem dX4_act_86 : decode cX4_act 86 = .ok (.iload_n 2, 1) := by decide +kernel
theorem dX4_act_87 : decode cX4_act 87 = .ok (.invokevirtual 110, 3) := by decide +kernel
theorem dX4_act_90 : decode cX4_act 90 = .ok (.goto 25, 3) := by decide +kernel
theorem dX4_act_93 : decode cX4_act 93 = .ok (.aload_n 0, 1) := by decide +kernel
theorem dX4_act_94 : decode cX4_act 94 = .ok (.iload_n 3, 1) := by decide +kernel
theorem dX4_act_95 : decode cX4_act 95 = .ok (.invokevirtual 113, 3) := by decide +kernel
theorem dX4_act_98 : decode cX4_act 98 = .ok (.goto 17, 3) := by decide +kernel
theorem dX4_act_101 : decode cX4_act 101 = .ok (.aload_n 0, 1) := by decide +kernel
theorem dX4_act_102 : decode cX4_act 102 = .ok (.invokevirtual 116, 3) := by decide +kernel
theorem dX4_act_105 : decode cX4_act 105 = .ok (.goto 10, 3) := by decide +kernel
theorem dX4_act_108 : decode cX4_act 108 = .ok (.aload_n 0, 1) := by decide +kernel
theorem dX4_act_109 : decode cX4_act 109 = .ok (.invokevirtual 119, 3) := by decide +kernel
theorem dX4_act_112 : decode cX4_act 112 = .ok (.goto 3, 3) := by decide +kernel
theorem dX4_act_115 : decode cX4_act 115 = .ok (.return_, 1) := by decide +kernel
theorem dX4_tryClaim_0 : decode cX4_tryClaim 0 = .ok (.aload_n 0, 1) := by decide +kernel
theorem dX4_tryClaim_1 : decode cX4_tryClaim 1 = .ok (.getfield 24, 3) := by decide +kernel
theorem dX4_tryClaim_4 : decode cX4_tryClaim 4 = .ok (.iload_n 1, 1) := by decide +kernel
theorem dX4_tryClaim_5 : decode cX4_tryClaim 5 = .ok (.invokevirtual 85, 3) := by decide +kernel
theorem dX4_tryClaim_8 : decode cX4_tryClaim 8 = .ok (.ifCond .eq 16, 3) := by decide +kernel
theorem dX4_tryClaim_11 : decode cX4_tryClaim 11 = .ok (.aload_n 0, 1) := by decide +kernel
theorem dX4_tryClaim_12 : decode cX4_tryClaim 12 = .ok (.dup, 1) := by decide +kernel
theorem dX4_tryClaim_13 : decode cX4_tryClaim 13 = .ok (.getfield 35, 3) := by decide +kernel
theorem dX4_tryClaim_16 : decode cX4_tryClaim 16 = .ok (.iconst 1, 1) := by decide +kernel
theorem dX4_tryClaim_17 : decode cX4_tryClaim 17 = .ok (.iadd, 1) := by decide +kernel
theorem dX4_tryClaim_18 : decode cX4_tryClaim 18 = .ok (.putfield 35, 3) := by decide +kernel
theorem dX4_tryClaim_21 : decode cX4_tryClaim 21 = .ok (.goto 20, 3) := by decide +kernel
theorem dX4_tryClaim_24 : decode cX4_tryClaim 24 = .ok (.aload_n 0, 1) := by decide +kernel
theorem dX4_tryClaim_25 : decode cX4_tryClaim 25 = .ok (.dup, 1) := by decide +kernel
theorem dX4_tryClaim_26 : decode cX4_tryClaim 26 = .ok (.getfield 38, 3) := by decide +kernel
theorem dX4_tryClaim_29 : decode cX4_tryClaim 29 = .ok (.aload_n 0, 1) := by decide +kernel
theorem dX4_tryClaim_30 : decode cX4_tryClaim 30 = .ok (.getfield 24, 3) := by decide +kernel
theorem dX4_tryClaim_33 : decode cX4_tryClaim 33 = .ok (.iload_n 1, 1) := by decide +kernel
theorem dX4_tryClaim_34 : decode cX4_tryClaim 34 = .ok (.invokevirtual 122, 3) := by decide +kernel
theorem dX4_tryClaim_37 : decode cX4_tryClaim 37 = .ok (.iadd, 1) := by decide +kernel
theorem dX4_tryClaim_38 : decode cX4_tryClaim 38 = .ok (.putfield 38, 3) := by decide +kernel
theorem dX4_tryClaim_41 : decode cX4_tryClaim 41 = .ok (.return_, 1) := by decide +kernel
theorem dX4_tryBed_0 : decode cX4_tryBed 0 = .ok (.aload_n 0, 1) := by decide +kernel
theorem dX4_tryBed_1 : decode cX4_tryBed 1 = .ok (.getfield 24, 3) := by decide +kernel
theorem dX4_tryBed_4 : decode cX4_tryBed 4 = .ok (.getfield 125, 3) := by decide +kernel
theorem dX4_tryBed_7 : decode cX4_tryBed 7 = .ok (.iload_n 1, 1) := by decide +kernel
theorem dX4_tryBed_8 : decode cX4_tryBed 8 = .ok (.iaload, 1) := by decide +kernel
theorem dX4_tryBed_9 : decode cX4_tryBed 9 = .ok (.iload_n 2, 1) := by decide +kernel
theorem dX4_tryBed_10 : decode cX4_tryBed 10 = .ok (.if_icmp .ne 16, 3) := by decide +kernel
theorem dX4_tryBed_13 : decode cX4_tryBed 13 = .ok (.aload_n 0, 1) := by decide +kernel
theorem dX4_tryBed_14 : decode cX4_tryBed 14 = .ok (.dup, 1) := by decide +kernel
theorem dX4_tryBed_15 : decode cX4_tryBed 15 = .ok (.getfield 35, 3) := by decide +kernel
theorem dX4_tryBed_18 : decode cX4_tryBed 18 = .ok (.iconst 1, 1) := by decide +kernel
theorem dX4_tryBed_19 : decode cX4_tryBed 19 = .ok (.iadd, 1) := by decide +kernel
theorem dX4_tryBed_20 : decode cX4_tryBed 20 = .ok (.putfield 35, 3) := by decide +kernel
theorem dX4_tryBed_23 : decode cX4_tryBed 23 = .ok (.goto 13, 3) := by decide +kernel
theorem dX4_tryBed_26 : decode cX4_tryBed 26 = .ok (.aload_n 0, 1) := by decide +kernel
theorem dX4_tryBed_27 : decode cX4_tryBed 27 = .ok (.getfield 24, 3) := by decide +kernel
theorem dX4_tryBed_30 : decode cX4_tryBed 30 = .ok (.getfield 125, 3) := by decide +kernel
theorem dX4_tryBed_33 : decode cX4_tryBed 33 = .ok (.iload_n 1, 1) := by decide +kernel
theorem dX4_tryBed_34 : decode cX4_tryBed 34 = .ok (.iload_n 2, 1) := by decide +kernel
theorem dX4_tryBed_35 : decode cX4_tryBed 35 = .ok (.iastore, 1) := by decide +kernel
theorem dX4_tryBed_36 : decode cX4_tryBed 36 = .ok (.return_, 1) := by decide +kernel
theorem dX4_tryHarvest_0 : decode cX4_tryHarvest 0 = .ok (.aload_n 0, 1) := by decide +kernel
theorem dX4_tryHarvest_1 : decode cX4_tryHarvest 1 = .ok (.getfield 24, 3) := by decide +kernel
theorem dX4_tryHarvest_4 : decode cX4_tryHarvest 4 = .ok (.iload_n 1, 1) := by decide +kernel
theorem dX4_tryHarvest_5 : decode cX4_tryHarvest 5 = .ok (.invokevirtual 128, 3) := by decide +kernel
theorem dX4_tryHarvest_8 : decode cX4_tryHarvest 8 = .ok (.istore_n 2, 1) := by decide +kernel
theorem dX4_tryHarvest_9 : decode cX4_tryHarvest 9 = .ok (.aload_n 0, 1) := by decide +kernel
theorem dX4_tryHarvest_10 : decode cX4_tryHarvest 10 = .ok (.dup, 1) := by decide +kernel
theorem dX4_tryHarvest_11 : decode cX4_tryHarvest 11 = .ok (.getfield 41, 3) := by decide +kernel
theorem dX4_tryHarvest_14 : decode cX4_tryHarvest 14 = .ok (.iload_n 2, 1) := by decide +kernel
theorem dX4_tryHarvest_15 : decode cX4_tryHarvest 15 = .ok (.iadd, 1) := by decide +kernel
theorem dX4_tryHarvest_16 : decode cX4_tryHarvest 16 = .ok (.putfield 41, 3) := by decide +kernel
theorem dX4_tryHarvest_19 : decode cX4_tryHarvest 19 = .ok (.iload_n 2, 1) := by decide +kernel
theorem dX4_tryHarvest_20 : decode cX4_tryHarvest 20 = .ok (.ifCond .ne 13, 3) := by decide +kernel
theorem dX4_tryHarvest_23 : decode cX4_tryHarvest 23 = .ok (.aload_n 0, 1) := by decide +kernel
theorem dX4_tryHarvest_24 : decode cX4_tryHarvest 24 = .ok (.dup, 1) := by decide +kernel
theorem dX4_tryHarvest_25 : decode cX4_tryHarvest 25 = .ok (.getfield 35, 3) := by decide +kernel
theorem dX4_tryHarvest_28 : decode cX4_tryHarvest 28 = .ok (.iconst 1, 1) := by decide +kernel
theorem dX4_tryHarvest_29 : decode cX4_tryHarvest 29 = .ok (.iadd, 1) := by decide +kernel
theorem dX4_tryHarvest_30 : decode cX4_tryHarvest 30 = .ok (.putfield 35, 3) := by decide +kernel
theorem dX4_tryHarvest_33 : decode cX4_tryHarvest 33 = .ok (.return_, 1) := by decide +kernel
theorem dX4_tryNights_0 : decode cX4_tryNights 0 = .ok (.aload_n 0, 1) := by decide +kernel
theorem dX4_tryNights_1 : decode cX4_tryNights 1 = .ok (.getfield 24, 3) := by decide +kernel
theorem dX4_tryNights_4 : decode cX4_tryNights 4 = .ok (.iload_n 1, 1) := by decide +kernel
theorem dX4_tryNights_5 : decode cX4_tryNights 5 = .ok (.invokevirtual 131, 3) := by decide +kernel
theorem dX4_tryNights_8 : decode cX4_tryNights 8 = .ok (.ifCond .eq 16, 3) := by decide +kernel
theorem dX4_tryNights_11 : decode cX4_tryNights 11 = .ok (.aload_n 0, 1) := by decide +kernel
theorem dX4_tryNights_12 : decode cX4_tryNights 12 = .ok (.dup, 1) := by decide +kernel
theorem dX4_tryNights_13 : decode cX4_tryNights 13 = .ok (.getfield 44, 3) := by decide +kernel
theorem dX4_tryNights_16 : decode cX4_tryNights 16 = .ok (.iload_n 1, 1) := by decide +kernel
theorem dX4_tryNights_17 : decode cX4_tryNights 17 = .ok (.iadd, 1) := by decide +kernel
theorem dX4_tryNights_18 : decode cX4_tryNights 18 = .ok (.putfield 44, 3) := by decide +kernel
theorem dX4_tryNights_21 : decode cX4_tryNights 21 = .ok (.goto 13, 3) := by decide +kernel
theorem dX4_tryNights_24 : decode cX4_tryNights 24 = .ok (.aload_n 0, 1) := by decide +kernel
theorem dX4_tryNights_25 : decode cX4_tryNights 25 = .ok (.dup, 1) := by decide +kernel
theorem dX4_tryNights_26 : decode cX4_tryNights 26 = .ok (.getfield 35, 3) := by decide +kernel
theorem dX4_tryNights_29 : decode cX4_tryNights 29 = .ok (.iconst 1, 1) := by decide +kernel
theorem dX4_tryNights_30 : decode cX4_tryNights 30 = .ok (.iadd, 1) := by decide +kernel
theorem dX4_tryNights_31 : decode cX4_tryNights 31 = .ok (.putfield 35, 3) := by decide +kernel
theorem dX4_tryNights_34 : decode cX4_tryNights 34 = .ok (.return_, 1) := by decide +kernel
theorem dX4_tryForgetting_0 : decode cX4_tryForgetting 0 = .ok (.aload_n 0, 1) := by decide +kernel
theorem dX4_tryForgetting_1 : decode cX4_tryForgetting 1 = .ok (.getfield 24, 3) := by decide +kernel
theorem dX4_tryForgetting_4 : decode cX4_tryForgetting 4 = .ok (.getfield 134, 3) := by decide +kernel
theorem dX4_tryForgetting_7 : decode cX4_tryForgetting 7 = .ok (.ifCond .ne 13, 3) := by decide +kernel
theorem dX4_tryForgetting_10 : decode cX4_tryForgetting 10 = .ok (.aload_n 0, 1) := by decide +kernel
theorem dX4_tryForgetting_11 : decode cX4_tryForgetting 11 = .ok (.dup, 1) := by decide +kernel
theorem dX4_tryForgetting_12 : decode cX4_tryForgetting 12 = .ok (.getfield 35, 3) := by decide +kernel
theorem dX4_tryForgetting_15 : decode cX4_tryForgetting 15 = .ok (.iconst 1, 1) := by decide +kernel
theorem dX4_tryForgetting_16 : decode cX4_tryForgetting 16 = .ok (.iadd, 1) := by decide +kernel
theorem dX4_tryForgetting_17 : decode cX4_tryForgetting 17 = .ok (.putfield 35, 3) := by decide +kernel
theorem dX4_tryForgetting_20 : decode cX4_tryForgetting 20 = .ok (.aload_n 0, 1) := by decide +kernel
theorem dX4_tryForgetting_21 : decode cX4_tryForgetting 21 = .ok (.getfield 24, 3) := by decide +kernel
theorem dX4_tryForgetting_24 : decode cX4_tryForgetting 24 = .ok (.iconst 0, 1) := by decide +kernel
theorem dX4_tryForgetting_25 : decode cX4_tryForgetting 25 = .ok (.putfield 134, 3) := by decide +kernel
theorem dX4_tryForgetting_28 : decode cX4_tryForgetting 28 = .ok (.return_, 1) := by decide +kernel
theorem dX4_tryAny_0 : decode cX4_tryAny 0 = .ok (.aload_n 0, 1) := by decide +kernel
theorem dX4_tryAny_1 : decode cX4_tryAny 1 = .ok (.getfield 24, 3) := by decide +kernel
theorem dX4_tryAny_4 : decode cX4_tryAny 4 = .ok (.getfield 137, 3) := by decide +kernel
theorem dX4_tryAny_7 : decode cX4_tryAny 7 = .ok (.ifCond .eq 13, 3) := by decide +kernel
theorem dX4_tryAny_10 : decode cX4_tryAny 10 = .ok (.aload_n 0, 1) := by decide +kernel
theorem dX4_tryAny_11 : decode cX4_tryAny 11 = .ok (.getfield 24, 3) := by decide +kernel
theorem dX4_tryAny_14 : decode cX4_tryAny 14 = .ok (.getfield 140, 3) := by decide +kernel
theorem dX4_tryAny_17 : decode cX4_tryAny 17 = .ok (.ifCond .ne 14, 3) := by decide +kernel
theorem dX4_tryAny_20 : decode cX4_tryAny 20 = .ok (.aload_n 0, 1) := by decide +kernel
theorem dX4_tryAny_21 : decode cX4_tryAny 21 = .ok (.dup, 1) := by decide +kernel
theorem dX4_tryAny_22 : decode cX4_tryAny 22 = .ok (.getfield 35, 3) := by decide +kernel
theorem dX4_tryAny_25 : decode cX4_tryAny 25 = .ok (.iconst 1, 1) := by decide +kernel
theorem dX4_tryAny_26 : decode cX4_tryAny 26 = .ok (.iadd, 1) := by decide +kernel
theorem dX4_tryAny_27 : decode cX4_tryAny 27 = .ok (.putfield 35, 3) := by decide +kernel
theorem dX4_tryAny_30 : decode cX4_tryAny 30 = .ok (.return_, 1) := by decide +kernel
theorem dX4_tryAny_31 : decode cX4_tryAny 31 = .ok (.aload_n 0, 1) := by decide +kernel
theorem dX4_tryAny_32 : decode cX4_tryAny 32 = .ok (.aload_n 0, 1) := by decide +kernel
theorem dX4_tryAny_33 : decode cX4_tryAny 33 = .ok (.getfield 24, 3) := by decide +kernel
theorem dX4_tryAny_36 : decode cX4_tryAny 36 = .ok (.getfield 137, 3) := by decide +kernel
theorem dX4_tryAny_39 : decode cX4_tryAny 39 = .ok (.invokevirtual 143, 3) := by decide +kernel
theorem dX4_tryAny_42 : decode cX4_tryAny 42 = .ok (.istore_n 1, 1) := by decide +kernel
theorem dX4_tryAny_43 : decode cX4_tryAny 43 = .ok (.aload_n 0, 1) := by decide +kernel
theorem dX4_tryAny_44 : decode cX4_tryAny 44 = .ok (.aload_n 0, 1) := by decide +kernel
theorem dX4_tryAny_45 : decode cX4_tryAny 45 = .ok (.getfield 24, 3) := by decide +kernel
theorem dX4_tryAny_48 : decode cX4_tryAny 48 = .ok (.getfield 140, 3) := by decide +kernel
theorem dX4_tryAny_51 : decode cX4_tryAny 51 = .ok (.invokevirtual 143, 3) := by decide +kernel
theorem dX4_tryAny_54 : decode cX4_tryAny 54 = .ok (.istore_n 2, 1) := by decide +kernel
theorem dX4_tryAny_55 : decode cX4_tryAny 55 = .ok (.aload_n 0, 1) := by decide +kernel
theorem dX4_tryAny_56 : decode cX4_tryAny 56 = .ok (.bipush 16, 2) := by decide +kernel
theorem dX4_tryAny_58 : decode cX4_tryAny 58 = .ok (.invokevirtual 143, 3) := by decide +kernel
theorem dX4_tryAny_61 : decode cX4_tryAny 61 = .ok (.aload_n 0, 1) := by decide +kernel
theorem dX4_tryAny_62 : decode cX4_tryAny 62 = .ok (.getfield 24, 3) := by decide +kernel
theorem dX4_tryAny_65 : decode cX4_tryAny 65 = .ok (.getfield 146, 3) := by decide +kernel
theorem dX4_tryAny_68 : decode cX4_tryAny 68 = .ok (.if_icmp .ge 11, 3) := by decide +kernel
theorem dX4_tryAny_71 : decode cX4_tryAny 71 = .ok (.aload_n 0, 1) := by decide +kernel
theorem dX4_tryAny_72 : decode cX4_tryAny 72 = .ok (.iload_n 1, 1) := by decide +kernel
theorem dX4_tryAny_73 : decode cX4_tryAny 73 = .ok (.invokevirtual 103, 3) := by decide +kernel
theorem dX4_tryAny_76 : decode cX4_tryAny 76 = .ok (.goto 8, 3) := by decide +kernel
theorem dX4_tryAny_79 : decode cX4_tryAny 79 = .ok (.aload_n 0, 1) := by decide +kernel
theorem dX4_tryAny_80 : decode cX4_tryAny 80 = .ok (.iload_n 2, 1) := by decide +kernel
theorem dX4_tryAny_81 : decode cX4_tryAny 81 = .ok (.invokevirtual 110, 3) := by decide +kernel
theorem dX4_tryAny_84 : decode cX4_tryAny 84 = .ok (.return_, 1) := by decide +kernel
theorem dX4_draw_0 : decode cX4_draw 0 = .ok (.aload_n 0, 1) := by decide +kernel
theorem dX4_draw_1 : decode cX4_draw 1 = .ok (.aload_n 0, 1) := by decide +kernel
theorem dX4_draw_2 : decode cX4_draw 2 = .ok (.getfield 28, 3) := by decide +kernel
theorem dX4_draw_5 : decode cX4_draw 5 = .ok (.sipush 3229, 3) := by decide +kernel
theorem dX4_draw_8 : decode cX4_draw 8 = .ok (.imul, 1) := by decide +kernel
theorem dX4_draw_9 : decode cX4_draw 9 = .ok (.sipush 11453, 3) := by decide +kernel
theorem dX4_draw_12 : decode cX4_draw 12 = .ok (.iadd, 1) := by decide +kernel
theorem dX4_draw_13 : decode cX4_draw 13 = .ok (.ldc 149, 2) := by decide +kernel
theorem dX4_draw_15 : decode cX4_draw 15 = .ok (.irem, 1) := by decide +kernel
theorem dX4_draw_16 : decode cX4_draw 16 = .ok (.putfield 28, 3) := by decide +kernel
theorem dX4_draw_19 : decode cX4_draw 19 = .ok (.iload_n 1, 1) := by decide +kernel
theorem dX4_draw_20 : decode cX4_draw 20 = .ok (.ifCond .le 15, 3) := by decide +kernel
theorem dX4_draw_23 : decode cX4_draw 23 = .ok (.aload_n 0, 1) := by decide +kernel
theorem dX4_draw_24 : decode cX4_draw 24 = .ok (.getfield 28, 3) := by decide +kernel
theorem dX4_draw_27 : decode cX4_draw 27 = .ok (.bipush 8, 2) := by decide +kernel
theorem dX4_draw_29 : decode cX4_draw 29 = .ok (.idiv, 1) := by decide +kernel
theorem dX4_draw_30 : decode cX4_draw 30 = .ok (.iload_n 1, 1) := by decide +kernel
theorem dX4_draw_31 : decode cX4_draw 31 = .ok (.irem, 1) := by decide +kernel
theorem dX4_draw_32 : decode cX4_draw 32 = .ok (.goto 4, 3) := by decide +kernel
theorem dX4_draw_35 : decode cX4_draw 35 = .ok (.iconst 0, 1) := by decide +kernel
theorem dX4_draw_36 : decode cX4_draw 36 = .ok (.ireturn, 1) := by decide +kernel
theorem dX5_init_0 : decode cX5_init 0 = .ok (.aload_n 0, 1) := by decide +kernel
theorem dX5_init_1 : decode cX5_init 1 = .ok (.invokespecial 3, 3) := by decide +kernel
theorem dX5_init_4 : decode cX5_init 4 = .ok (.aload_n 0, 1) := by decide +kernel
theorem dX5_init_5 : decode cX5_init 5 = .ok (.bipush 60, 2) := by decide +kernel
theorem dX5_init_7 : decode cX5_init 7 = .ok (.newarray .int, 2) := by decide +kernel
theorem dX5_init_9 : decode cX5_init 9 = .ok (.putfield 11, 3) := by decide +kernel
theorem dX5_init_12 : decode cX5_init 12 = .ok (.aload_n 0, 1) := by decide +kernel
theorem dX5_init_13 : decode cX5_init 13 = .ok (.bipush 60, 2) := by decide +kernel
theorem dX5_init_15 : decode cX5_init 15 = .ok (.newarray .int, 2) := by decide +kernel
theorem dX5_init_17 : decode cX5_init 17 = .ok (.putfield 15, 3) := by decide +kernel
theorem dX5_init_20 : decode cX5_init 20 = .ok (.aload_n 0, 1) := by decide +kernel
theorem dX5_init_21 : decode cX5_init 21 = .ok (.bipush 60, 2) := by decide +kernel
theorem dX5_init_23 : decode cX5_init 23 = .ok (.newarray .int, 2) := by decide +kernel
theorem dX5_init_25 : decode cX5_init 25 = .ok (.putfield 18, 3) := by decide +kernel
theorem dX5_init_28 : decode cX5_init 28 = .ok (.aload_n 0, 1) := by decide +kernel
theorem dX5_init_29 : decode cX5_init 29 = .ok (.bipush 60, 2) := by decide +kernel
theorem dX5_init_31 : decode cX5_init 31 = .ok (.newarray .int, 2) := by decide +kernel
theorem dX5_init_33 : decode cX5_init 33 = .ok (.putfield 21, 3) := by decide +kernel
theorem dX5_init_36 : decode cX5_init 36 = .ok (.aload_n 0, 1) := by decide +kernel
theorem dX5_init_37 : decode cX5_init 37 = .ok (.bipush 60, 2) := by decide +kernel
theorem dX5_init_39 : decode cX5_init 39 = .ok (.newarray .int, 2) := by decide +kernel
theorem dX5_init_41 : decode cX5_init 41 = .ok (.putfield 24, 3) := by decide +kernel
theorem dX5_init_44 : decode cX5_init 44 = .ok (.return_, 1) := by decide +kernel
theorem dX5_clear_0 : decode cX5_clear 0 = .ok (.aload_n 0, 1) := by decide +kernel
theorem dX5_clear_1 : decode cX5_clear 1 = .ok (.iconst 0, 1) := by decide +kernel
theorem dX5_clear_2 : decode cX5_clear 2 = .ok (.putfield 27, 3) := by decide +kernel
theorem dX5_clear_5 : decode cX5_clear 5 = .ok (.aload_n 0, 1) := by decide +kernel
theorem dX5_clear_6 : decode cX5_clear 6 = .ok (.iconst 0, 1) := by decide +kernel
theorem dX5_clear_7 : decode cX5_clear 7 = .ok (.putfield 31, 3) := by decide +kernel
theorem dX5_clear_10 : decode cX5_clear 10 = .ok (.aload_n 0, 1) := by decide +kernel
theorem dX5_clear_11 : decode cX5_clear 11 = .ok (.iconst 0, 1) := by decide +kernel
theorem dX5_clear_12 : decode cX5_clear 12 = .ok (.putfield 35, 3) := by decide +kernel
theorem dX5_clear_15 : decode cX5_clear 15 = .ok (.return_, 1) := by decide +kernel
theorem dX5_copyFrom_0 : decode cX5_copyFrom 0 = .ok (.aload_n 1, 1) := by decide +kernel
theorem dX5_copyFrom_1 : decode cX5_copyFrom 1 = .ok (.getfield 11, 3) := by decide +kernel
theorem dX5_copyFrom_4 : decode cX5_copyFrom 4 = .ok (.iconst 0, 1) := by decide +kernel
theorem dX5_copyFrom_5 : decode cX5_copyFrom 5 = .ok (.aload_n 0, 1) := by decide +kernel
theorem dX5_copyFrom_6 : decode cX5_copyFrom 6 = .ok (.getfield 11, 3) := by decide +kernel
theorem dX5_copyFrom_9 : decode cX5_copyFrom 9 = .ok (.iconst 0, 1) := by decide +kernel
theorem dX5_copyFrom_10 : decode cX5_copyFrom 10 = .ok (.bipush 60, 2) := by decide +kernel
theorem dX5_copyFrom_12 : decode cX5_copyFrom 12 = .ok (.invokestatic 38, 3) := by decide +kernel
theorem dX5_copyFrom_15 : decode cX5_copyFrom 15 = .ok (.aload_n 1, 1) := by decide +kernel
theorem dX5_copyFrom_16 : decode cX5_copyFrom 16 = .ok (.getfield 15, 3) := by decide +kernel
theorem dX5_copyFrom_19 : decode cX5_copyFrom 19 = .ok (.iconst 0, 1) := by decide +kernel
theorem dX5_copyFrom_20 : decode cX5_copyFrom 20 = .ok (.aload_n 0, 1) := by decide +kernel
theorem dX5_copyFrom_21 : decode cX5_copyFrom 21 = .ok (.getfield 15, 3) := by decide +kernel
theorem dX5_copyFrom_24 : decode cX5_copyFrom 24 = .ok (.iconst 0, 1) := by decide +kernel
theorem dX5_copyFrom_25 : decode cX5_copyFrom 25 = .ok (.bipush 60, 2) := by decide +kernel
theorem dX5_copyFrom_27 : decode cX5_copyFrom 27 = .ok (.invokestatic 38, 3) := by decide +kernel
theorem dX5_copyFrom_30 : decode cX5_copyFrom 30 = .ok (.aload_n 1, 1) := by decide +kernel
theorem dX5_copyFrom_31 : decode cX5_copyFrom 31 = .ok (.getfield 18, 3) := by decide +kernel
theorem dX5_copyFrom_34 : decode cX5_copyFrom 34 = .ok (.iconst 0, 1) := by decide +kernel
theorem dX5_copyFrom_35 : decode cX5_copyFrom 35 = .ok (.aload_n 0, 1) := by decide +kernel
theorem dX5_copyFrom_36 : decode cX5_copyFrom 36 = .ok (.getfield 18, 3) := by decide +kernel
theorem dX5_copyFrom_39 : decode cX5_copyFrom 39 = .ok (.iconst 0, 1) := by decide +kernel
theorem dX5_copyFrom_40 : decode cX5_copyFrom 40 = .ok (.bipush 60, 2) := by decide +kernel
theorem dX5_copyFrom_42 : decode cX5_copyFrom 42 = .ok (.invokestatic 38, 3) := by decide +kernel
theorem dX5_copyFrom_45 : decode cX5_copyFrom 45 = .ok (.aload_n 1, 1) := by decide +kernel
theorem dX5_copyFrom_46 : decode cX5_copyFrom 46 = .ok (.getfield 21, 3) := by decide +kernel
theorem dX5_copyFrom_49 : decode cX5_copyFrom 49 = .ok (.iconst 0, 1) := by decide +kernel
theorem dX5_copyFrom_50 : decode cX5_copyFrom 50 = .ok (.aload_n 0, 1) := by decide +kernel
theorem dX5_copyFrom_51 : decode cX5_copyFrom 51 = .ok (.getfield 21, 3) := by decide +kernel
theorem dX5_copyFrom_54 : decode cX5_copyFrom 54 = .ok (.iconst 0, 1) := by decide +kernel
theorem dX5_copyFrom_55 : decode cX5_copyFrom 55 = .ok (.bipush 60, 2) := by decide +kernel
theorem dX5_copyFrom_57 : decode cX5_copyFrom 57 = .ok (.invokestatic 38, 3) := by decide +kernel
theorem dX5_copyFrom_60 : decode cX5_copyFrom 60 = .ok (.aload_n 1, 1) := by decide +kernel
theorem dX5_copyFrom_61 : decode cX5_copyFrom 61 = .ok (.getfield 24, 3) := by decide +kernel
theorem dX5_copyFrom_64 : decode cX5_copyFrom 64 = .ok (.iconst 0, 1) := by decide +kernel
theorem dX5_copyFrom_65 : decode cX5_copyFrom 65 = .ok (.aload_n 0, 1) := by decide +kernel
theorem dX5_copyFrom_66 : decode cX5_copyFrom 66 = .ok (.getfield 24, 3) := by decide +kernel
theorem dX5_copyFrom_69 : decode cX5_copyFrom 69 = .ok (.iconst 0, 1) := by decide +kernel
theorem dX5_copyFrom_70 : decode cX5_copyFrom 70 = .ok (.bipush 60, 2) := by decide +kernel
theorem dX5_copyFrom_72 : decode cX5_copyFrom 72 = .ok (.invokestatic 38, 3) := by decide +kernel
theorem dX5_copyFrom_75 : decode cX5_copyFrom 75 = .ok (.aload_n 0, 1) := by decide +kernel
theorem dX5_copyFrom_76 : decode cX5_copyFrom 76 = .ok (.aload_n 1, 1) := by decide +kernel
theorem dX5_copyFrom_77 : decode cX5_copyFrom 77 = .ok (.getfield 27, 3) := by decide +kernel
theorem dX5_copyFrom_80 : decode cX5_copyFrom 80 = .ok (.putfield 27, 3) := by decide +kernel
theorem dX5_copyFrom_83 : decode cX5_copyFrom 83 = .ok (.aload_n 0, 1) := by decide +kernel
theorem dX5_copyFrom_84 : decode cX5_copyFrom 84 = .ok (.aload_n 1, 1) := by decide +kernel
theorem dX5_copyFrom_85 : decode cX5_copyFrom 85 = .ok (.getfield 31, 3) := by decide +kernel
theorem dX5_copyFrom_88 : decode cX5_copyFrom 88 = .ok (.putfield 31, 3) := by decide +kernel
theorem dX5_copyFrom_91 : decode cX5_copyFrom 91 = .ok (.aload_n 0, 1) := by decide +kernel
theorem dX5_copyFrom_92 : decode cX5_copyFrom 92 = .ok (.aload_n 1, 1) := by decide +kernel
theorem dX5_copyFrom_93 : decode cX5_copyFrom 93 = .ok (.getfield 35, 3) := by decide +kernel
theorem dX5_copyFrom_96 : decode cX5_copyFrom 96 = .ok (.putfield 35, 3) := by decide +kernel
theorem dX5_copyFrom_99 : decode cX5_copyFrom 99 = .ok (.return_, 1) := by decide +kernel
theorem dX6_init_0 : decode cX6_init 0 = .ok (.aload_n 0, 1) := by decide +kernel
theorem dX6_init_1 : decode cX6_init 1 = .ok (.invokespecial 3, 3) := by decide +kernel
theorem dX6_init_4 : decode cX6_init 4 = .ok (.aload_n 0, 1) := by decide +kernel
theorem dX6_init_5 : decode cX6_init 5 = .ok (.iconst 3, 1) := by decide +kernel
theorem dX6_init_6 : decode cX6_init 6 = .ok (.newarray .int, 2) := by decide +kernel
theorem dX6_init_8 : decode cX6_init 8 = .ok (.putfield 9, 3) := by decide +kernel
theorem dX6_init_11 : decode cX6_init 11 = .ok (.aload_n 0, 1) := by decide +kernel
theorem dX6_init_12 : decode cX6_init 12 = .ok (.aload_n 1, 1) := by decide +kernel
theorem dX6_init_13 : decode cX6_init 13 = .ok (.putfield 15, 3) := by decide +kernel
theorem dX6_init_16 : decode cX6_init 16 = .ok (.aload_n 0, 1) := by decide +kernel
theorem dX6_init_17 : decode cX6_init 17 = .ok (.aload_n 2, 1) := by decide +kernel
theorem dX6_init_18 : decode cX6_init 18 = .ok (.putfield 19, 3) := by decide +kernel
theorem dX6_init_21 : decode cX6_init 21 = .ok (.aload_n 0, 1) := by decide +kernel
theorem dX6_init_22 : decode cX6_init 22 = .ok (.aload_n 3, 1) := by decide +kernel
theorem dX6_init_23 : decode cX6_init 23 = .ok (.putfield 23, 3) := by decide +kernel
theorem dX6_init_26 : decode cX6_init 26 = .ok (.return_, 1) := by decide +kernel
theorem dX6_takeText_0 : decode cX6_takeText 0 = .ok (.aload_n 0, 1) := by decide +kernel
theorem dX6_takeText_1 : decode cX6_takeText 1 = .ok (.getfield 19, 3) := by decide +kernel
theorem dX6_takeText_4 : decode cX6_takeText 4 = .ok (.invokevirtual 27, 3) := by decide +kernel
theorem dX6_takeText_7 : decode cX6_takeText 7 = .ok (.aload_n 0, 1) := by decide +kernel
theorem dX6_takeText_8 : decode cX6_takeText 8 = .ok (.getfield 19, 3) := by decide +kernel
theorem dX6_takeText_11 : decode cX6_takeText 11 = .ok (.iconst 1, 1) := by decide +kernel
theorem dX6_takeText_12 : decode cX6_takeText 12 = .ok (.putfield 32, 3) := by decide +kernel
theorem dX6_takeText_15 : decode cX6_takeText 15 = .ok (.aload_n 0, 1) := by decide +kernel
theorem dX6_takeText_16 : decode cX6_takeText 16 = .ok (.iconst 0, 1) := by decide +kernel
theorem dX6_takeText_17 : decode cX6_takeText 17 = .ok (.putfield 36, 3) := by decide +kernel
theorem dX6_takeText_20 : decode cX6_takeText 20 = .ok (.aload_n 0, 1) := by decide +kernel
theorem dX6_takeText_21 : decode cX6_takeText 21 = .ok (.getfield 15, 3) := by decide +kernel
theorem dX6_takeText_24 : decode cX6_takeText 24 = .ok (.iload_n 1, 1) := by decide +kernel
theorem dX6_takeText_25 : decode cX6_takeText 25 = .ok (.invokevirtual 40, 3) := by decide +kernel
theorem dX6_takeText_28 : decode cX6_takeText 28 = .ok (.iconst 0, 1) := by decide +kernel
theorem dX6_takeText_29 : decode cX6_takeText 29 = .ok (.istore_n 2, 1) := by decide +kernel
theorem dX6_takeText_30 : decode cX6_takeText 30 = .ok (.iload_n 2, 1) := by decide +kernel
theorem dX6_takeText_31 : decode cX6_takeText 31 = .ok (.iload_n 1, 1) := by decide +kernel
theorem dX6_takeText_32 : decode cX6_takeText 32 = .ok (.if_icmp .gt 49, 3) := by decide +kernel
theorem dX6_takeText_35 : decode cX6_takeText 35 = .ok (.aload_n 0, 1) := by decide +kernel
theorem dX6_takeText_36 : decode cX6_takeText 36 = .ok (.getfield 15, 3) := by decide +kernel
theorem dX6_takeText_39 : decode cX6_takeText 39 = .ok (.invokevirtual 45, 3) := by decide +kernel
theorem dX6_takeText_42 : decode cX6_takeText 42 = .ok (.ifCond .ne 39, 3) := by decide +kernel
theorem dX6_takeText_45 : decode cX6_takeText 45 = .ok (.aload_n 0, 1) := by decide +kernel
theorem dX6_takeText_46 : decode cX6_takeText 46 = .ok (.getfield 15, 3) := by decide +kernel
theorem dX6_takeText_49 : decode cX6_takeText 49 = .ok (.bipush 21, 2) := by decide +kernel
theorem dX6_takeText_51 : decode cX6_takeText 51 = .ok (.invokevirtual 49, 3) := by decide +kernel
theorem dX6_takeText_54 : decode cX6_takeText 54 = .ok (.ifCond .eq 10, 3) := by decide +kernel
theorem dX6_takeText_57 : decode cX6_takeText 57 = .ok (.aload_n 0, 1) := by decide +kernel
theorem dX6_takeText_58 : decode cX6_takeText 58 = .ok (.invokevirtual 53, 3) := by decide +kernel
theorem dX6_takeText_61 : decode cX6_takeText 61 = .ok (.goto 7, 3) := by decide +kernel
theorem dX6_takeText_64 : decode cX6_takeText 64 = .ok (.aload_n 0, 1) := by decide +kernel
theorem dX6_takeText_65 : decode cX6_takeText 65 = .ok (.invokevirtual 56, 3) := by decide +kernel
theorem dX6_takeText_68 : decode cX6_takeText 68 = .ok (.istore_n 3, 1) := by decide +kernel
theorem dX6_takeText_69 : decode cX6_takeText 69 = .ok (.iload_n 3, 1) := by decide +kernel
theorem dX6_takeText_70 : decode cX6_takeText 70 = .ok (.ifCond .ne 5, 3) := by decide +kernel
theorem dX6_takeText_73 : decode cX6_takeText 73 = .ok (.iconst 0, 1) := by decide +kernel
theorem dX6_takeText_74 : decode cX6_takeText 74 = .ok (.ireturn, 1) := by decide +kernel
theorem dX6_takeText_75 : decode cX6_takeText 75 = .ok (.iinc 2 1, 3) := by decide +kernel
theorem dX6_takeText_78 : decode cX6_takeText 78 = .ok (.goto (-48), 3) := by decide +kernel
theorem dX6_takeText_81 : decode cX6_takeText 81 = .ok (.aload_n 0, 1) := by decide +kernel
theorem dX6_takeText_82 : decode cX6_takeText 82 = .ok (.getfield 36, 3) := by decide +kernel
theorem dX6_takeText_85 : decode cX6_takeText 85 = .ok (.ifCond .ne 7, 3) := by decide +kernel
theorem dX6_takeText_88 : decode cX6_takeText 88 = .ok (.iconst 1, 1) := by decide +kernel
theorem dX6_takeText_89 : decode cX6_takeText 89 = .ok (.goto 11, 3) := by decide +kernel
theorem dX6_takeText_92 : decode cX6_takeText 92 = .ok (.aload_n 0, 1) := by decide +kernel
theorem dX6_takeText_93 : decode cX6_takeText 93 = .ok (.getfield 15, 3) := by decide +kernel
theorem dX6_takeText_96 : decode cX6_takeText 96 = .ok (.iconst 2, 1) := by decide +kernel
theorem dX6_takeText_97 : decode cX6_takeText 97 = .ok (.invokevirtual 59, 3) := by decide +kernel
theorem dX6_takeText_100 : decode cX6_takeText 100 = .ok (.ireturn, 1) := by decide +kernel
theorem dX6_takeStep_0 : decode cX6_takeStep 0 = .ok (.aload_n 0, 1) := by decide +kernel
theorem dX6_takeStep_1 : decode cX6_takeStep 1 = .ok (.getfield 15, 3) := by decide +kernel
theorem dX6_takeStep_4 : decode cX6_takeStep 4 = .ok (.invokevirtual 62, 3) := by decide +kernel
theorem dX6_takeStep_7 : decode cX6_takeStep 7 = .ok (.istore_n 1, 1) := by decide +kernel
theorem dX6_takeStep_8 : decode cX6_takeStep 8 = .ok (.aload_n 0, 1) := by decide +kernel
theorem dX6_takeStep_9 : decode cX6_takeStep 9 = .ok (.iload_n 1, 1) := by decide +kernel
theorem dX6_takeStep_10 : decode cX6_takeStep 10 = .ok (.invokevirtual 66, 3) := by decide +kernel
theorem dX6_takeStep_13 : decode cX6_takeStep 13 = .ok (.ifCond .ne 5, 3) := by decide +kernel
theorem dX6_takeStep_16 : decode cX6_takeStep 16 = .ok (.iconst 0, 1) := by decide +kernel
theorem dX6_takeStep_17 : decode cX6_takeStep 17 = .ok (.ireturn, 1) := by decide +kernel
theorem dX6_takeStep_18 : decode cX6_takeStep 18 = .ok (.aload_n 0, 1) := by decide +kernel
theorem dX6_takeStep_19 : decode cX6_takeStep 19 = .ok (.iload_n 1, 1) := by decide +kernel
theorem dX6_takeStep_20 : decode cX6_takeStep 20 = .ok (.invokevirtual 69, 3) := by decide +kernel
theorem dX6_takeStep_23 : decode cX6_takeStep 23 = .ok (.istore_n 2, 1) := by decide +kernel
theorem dX6_takeStep_24 : decode cX6_takeStep 24 = .ok (.iconst 1, 1) := by decide +kernel
theorem dX6_takeStep_25 : decode cX6_takeStep 25 = .ok (.istore_n 3, 1) := by decide +kernel
theorem dX6_takeStep_26 : decode cX6_takeStep 26 = .ok (.iload_n 1, 1) := by decide +kernel
theorem dX6_takeStep_27 : decode cX6_takeStep 27 = .ok (.tableswitch 177 12 20 #[49, 72, 121, 144, 177, 177, 168, 177, 156], 49) := by decide +kernel
theorem dX6_takeStep_76 : decode cX6_takeStep 76 = .ok (.aload_n 0, 1) := by decide +kernel
theorem dX6_takeStep_77 : decode cX6_takeStep 77 = .ok (.iload_n 2, 1) := by decide +kernel
theorem dX6_takeStep_78 : decode cX6_takeStep 78 = .ok (.aload_n 0, 1) := by decide +kernel
theorem dX6_takeStep_79 : decode cX6_takeStep 79 = .ok (.getfield 23, 3) := by decide +kernel
theorem dX6_takeStep_82 : decode cX6_takeStep 82 = .ok (.getfield 73, 3) := by decide +kernel
theorem dX6_takeStep_85 : decode cX6_takeStep 85 = .ok (.aload_n 0, 1) := by decide +kernel
theorem dX6_takeStep_86 : decode cX6_takeStep 86 = .ok (.getfield 23, 3) := by decide +kernel
theorem dX6_takeStep_89 : decode cX6_takeStep 89 = .ok (.getfield 79, 3) := by decide +kernel
theorem dX6_takeStep_92 : decode cX6_takeStep 92 = .ok (.invokevirtual 82, 3) := by decide +kernel
theorem dX6_takeStep_95 : decode cX6_takeStep 95 = .ok (.istore_n 3, 1) := by decide +kernel
theorem dX6_takeStep_96 : decode cX6_takeStep 96 = .ok (.goto 108, 3) := by decide +kernel
theorem dX6_takeStep_99 : decode cX6_takeStep 99 = .ok (.aload_n 0, 1) := by decide +kernel
theorem dX6_takeStep_100 : decode cX6_takeStep 100 = .ok (.iload_n 2, 1) := by decide +kernel
theorem dX6_takeStep_101 : decode cX6_takeStep 101 = .ok (.aload_n 0, 1) := by decide +kernel
theorem dX6_takeStep_102 : decode cX6_takeStep 102 = .ok (.getfield 23, 3) := by decide +kernel
theorem dX6_takeStep_105 : decode cX6_takeStep 105 = .ok (.getfield 86, 3) := by decide +kernel
theorem dX6_takeStep_108 : decode cX6_takeStep 108 = .ok (.aload_n 0, 1) := by decide +kernel
theorem dX6_takeStep_109 : decode cX6_takeStep 109 = .ok (.getfield 23, 3) := by decide +kernel
theorem dX6_takeStep_112 : decode cX6_takeStep 112 = .ok (.getfield 89, 3) := by decide +kernel
theorem dX6_takeStep_115 : decode cX6_takeStep 115 = .ok (.invokevirtual 82, 3) := by decide +kernel
theorem dX6_takeStep_118 : decode cX6_takeStep 118 = .ok (.ifCond .eq 25, 3) := by decide +kernel
theorem dX6_takeStep_121 : decode cX6_takeStep 121 = .ok (.aload_n 0, 1) := by decide +kernel
theorem dX6_takeStep_122 : decode cX6_takeStep 122 = .ok (.iload_n 2, 1) := by decide +kernel
theorem dX6_takeStep_123 : decode cX6_takeStep 123 = .ok (.iconst 0, 1) := by decide +kernel
theorem dX6_takeStep_124 : decode cX6_takeStep 124 = .ok (.aload_n 0, 1) := by decide +kernel
theorem dX6_takeStep_125 : decode cX6_takeStep 125 = .ok (.getfield 23, 3) := by decide +kernel
theorem dX6_takeStep_128 : decode cX6_takeStep 128 = .ok (.getfield 92, 3) := by decide +kernel
theorem dX6_takeStep_131 : decode cX6_takeStep 131 = .ok (.iconst 1, 1) := by decide +kernel
theorem dX6_takeStep_132 : decode cX6_takeStep 132 = .ok (.isub, 1) := by decide +kernel
theorem dX6_takeStep_133 : decode cX6_takeStep 133 = .ok (.invokevirtual 95, 3) := by decide +kernel
theorem dX6_takeStep_136 : decode cX6_takeStep 136 = .ok (.ifCond .eq 7, 3) := by decide +kernel
theorem dX6_takeStep_139 : decode cX6_takeStep 139 = .ok (.iconst 1, 1) := by decide +kernel
theorem dX6_takeStep_140 : decode cX6_takeStep 140 = .ok (.goto 4, 3) := by decide +kernel
theorem dX6_takeStep_143 : decode cX6_takeStep 143 = .ok (.iconst 0, 1) := by decide +kernel
theorem dX6_takeStep_144 : decode cX6_takeStep 144 = .ok (.istore_n 3, 1) := by decide +kernel
theorem dX6_takeStep_145 : decode cX6_takeStep 145 = .ok (.goto 59, 3) := by decide +kernel
theorem dX6_takeStep_148 : decode cX6_takeStep 148 = .ok (.aload_n 0, 1) := by decide +kernel
theorem dX6_takeStep_149 : decode cX6_takeStep 149 = .ok (.iload_n 2, 1) := by decide +kernel
theorem dX6_takeStep_150 : decode cX6_takeStep 150 = .ok (.aload_n 0, 1) := by decide +kernel
theorem dX6_takeStep_151 : decode cX6_takeStep 151 = .ok (.getfield 23, 3) := by decide +kernel
theorem dX6_takeStep_154 : decode cX6_takeStep 154 = .ok (.getfield 86, 3) := by decide +kernel
theorem dX6_takeStep_157 : decode cX6_takeStep 157 = .ok (.aload_n 0, 1) := by decide +kernel
theorem dX6_takeStep_158 : decode cX6_takeStep 158 = .ok (.getfield 23, 3) := by decide +kernel
theorem dX6_takeStep_161 : decode cX6_takeStep 161 = .ok (.getfield 89, 3) := by decide +kernel
theorem dX6_takeStep_164 : decode cX6_takeStep 164 = .ok (.invokevirtual 82, 3) := by decide +kernel
theorem dX6_takeStep_167 : decode cX6_takeStep 167 = .ok (.istore_n 3, 1) := by decide +kernel
theorem dX6_takeStep_168 : decode cX6_takeStep 168 = .ok (.goto 36, 3) := by decide +kernel
theorem dX6_takeStep_171 : decode cX6_takeStep 171 = .ok (.aload_n 0, 1) := by decide +kernel
theorem dX6_takeStep_172 : decode cX6_takeStep 172 = .ok (.iload_n 2, 1) := by decide +kernel
theorem dX6_takeStep_173 : decode cX6_takeStep 173 = .ok (.iconst 1, 1) := by decide +kernel
theorem dX6_takeStep_174 : decode cX6_takeStep 174 = .ok (.bipush 40, 2) := by decide +kernel
theorem dX6_takeStep_176 : decode cX6_takeStep 176 = .ok (.invokevirtual 95, 3) := by decide +kernel
theorem dX6_takeStep_179 : decode cX6_takeStep 179 = .ok (.istore_n 3, 1) := by decide +kernel
theorem dX6_takeStep_180 : decode cX6_takeStep 180 = .ok (.goto 24, 3) := by decide +kernel
theorem dX6_takeStep_183 : decode cX6_takeStep 183 = .ok (.aload_n 0, 1) := by decide +kernel
theorem dX6_takeStep_184 : decode cX6_takeStep 184 = .ok (.iload_n 2, 1) := by decide +kernel
theorem dX6_takeStep_185 : decode cX6_takeStep 185 = .ok (.iconst 1, 1) := by decide +kernel
theorem dX6_takeStep_186 : decode cX6_takeStep 186 = .ok (.bipush 99, 2) := by decide +kernel
theorem dX6_takeStep_188 : decode cX6_takeStep 188 = .ok (.invokevirtual 95, 3) := by decide +kernel
theorem dX6_takeStep_191 : decode cX6_takeStep 191 = .ok (.istore_n 3, 1) := by decide +kernel
theorem dX6_takeStep_192 : decode cX6_takeStep 192 = .ok (.goto 12, 3) := by decide +kernel
theorem dX6_takeStep_195 : decode cX6_takeStep 195 = .ok (.aload_n 0, 1) := by decide +kernel
theorem dX6_takeStep_196 : decode cX6_takeStep 196 = .ok (.iload_n 2, 1) := by decide +kernel
theorem dX6_takeStep_197 : decode cX6_takeStep 197 = .ok (.invokevirtual 99, 3) := by decide +kernel
theorem dX6_takeStep_200 : decode cX6_takeStep 200 = .ok (.istore_n 3, 1) := by decide +kernel
theorem dX6_takeStep_201 : decode cX6_takeStep 201 = .ok (.goto 3, 3) := by decide +kernel
theorem dX6_takeStep_204 : decode cX6_takeStep 204 = .ok (.iload_n 3, 1) := by decide +kernel
theorem dX6_takeStep_205 : decode cX6_takeStep 205 = .ok (.ifCond .eq 17, 3) := by decide +kernel
theorem dX6_takeStep_208 : decode cX6_takeStep 208 = .ok (.aload_n 0, 1) := by decide +kernel
theorem dX6_takeStep_209 : decode cX6_takeStep 209 = .ok (.getfield 15, 3) := by decide +kernel
theorem dX6_takeStep_212 : decode cX6_takeStep 212 = .ok (.invokevirtual 102, 3) := by decide +kernel
theorem dX6_takeStep_215 : decode cX6_takeStep 215 = .ok (.ifCond .eq 7, 3) := by decide +kernel
theorem dX6_takeStep_218 : decode cX6_takeStep 218 = .ok (.iconst 1, 1) := by decide +kernel
theorem dX6_takeStep_219 : decode cX6_takeStep 219 = .ok (.goto 4, 3) := by decide +kernel
theorem dX6_takeStep_222 : decode cX6_takeStep 222 = .ok (.iconst 0, 1) := by decide +kernel
theorem dX6_takeStep_223 : decode cX6_takeStep 223 = .ok (.ireturn, 1) := by decide +kernel
theorem dX6_canBegin_0 : decode cX6_canBegin 0 = .ok (.iload_n 1, 1) := by decide +kernel
theorem dX6_canBegin_1 : decode cX6_canBegin 1 = .ok (.bipush 12, 2) := by decide +kernel
theorem dX6_canBegin_3 : decode cX6_canBegin 3 = .ok (.if_icmp .lt 15, 3) := by decide +kernel
theorem dX6_canBegin_6 : decode cX6_canBegin 6 = .ok (.iload_n 1, 1) := by decide +kernel
theorem dX6_canBegin_7 : decode cX6_canBegin 7 = .ok (.bipush 22, 2) := by decide +kernel
theorem dX6_canBegin_9 : decode cX6_canBegin 9 = .ok (.if_icmp .gt 9, 3) := by decide +kernel
theorem dX6_canBegin_12 : decode cX6_canBegin 12 = .ok (.iload_n 1, 1) := by decide +kernel
theorem dX6_canBegin_13 : decode cX6_canBegin 13 = .ok (.bipush 19, 2) := by decide +kernel
theorem dX6_canBegin_15 : decode cX6_canBegin 15 = .ok (.if_icmp .ne 12, 3) := by decide +kernel
theorem dX6_canBegin_18 : decode cX6_canBegin 18 = .ok (.aload_n 0, 1) := by decide +kernel
theorem dX6_canBegin_19 : decode cX6_canBegin 19 = .ok (.getfield 15, 3) := by decide +kernel
theorem dX6_canBegin_22 : decode cX6_canBegin 22 = .ok (.iconst 2, 1) := by decide +kernel
theorem dX6_canBegin_23 : decode cX6_canBegin 23 = .ok (.invokevirtual 59, 3) := by decide +kernel
theorem dX6_canBegin_26 : decode cX6_canBegin 26 = .ok (.ireturn, 1) := by decide +kernel
theorem dX6_canBegin_27 : decode cX6_canBegin 27 = .ok (.aload_n 0, 1) := by decide +kernel
theorem dX6_canBegin_28 : decode cX6_canBegin 28 = .ok (.getfield 19, 3) := by decide +kernel
theorem dX6_canBegin_31 : decode cX6_canBegin 31 = .ok (.getfield 105, 3) := by decide +kernel
theorem dX6_canBegin_34 : decode cX6_canBegin 34 = .ok (.bipush 30, 2) := by decide +kernel
theorem dX6_canBegin_36 : decode cX6_canBegin 36 = .ok (.if_icmp .lt 13, 3) := by decide +kernel
theorem dX6_canBegin_39 : decode cX6_canBegin 39 = .ok (.aload_n 0, 1) := by decide +kernel
theorem dX6_canBegin_40 : decode cX6_canBegin 40 = .ok (.getfield 15, 3) := by decide +kernel
theorem dX6_canBegin_43 : decode cX6_canBegin 43 = .ok (.bipush 6, 2) := by decide +kernel
theorem dX6_canBegin_45 : decode cX6_canBegin 45 = .ok (.invokevirtual 59, 3) := by decide +kernel
theorem dX6_canBegin_48 : decode cX6_canBegin 48 = .ok (.ireturn, 1) := by decide +kernel
theorem dX6_canBegin_49 : decode cX6_canBegin 49 = .ok (.iload_n 1, 1) := by decide +kernel
theorem dX6_canBegin_50 : decode cX6_canBegin 50 = .ok (.bipush 18, 2) := by decide +kernel
theorem dX6_canBegin_52 : decode cX6_canBegin 52 = .ok (.if_icmp .eq 9, 3) := by decide +kernel
theorem dX6_canBegin_55 : decode cX6_canBegin 55 = .ok (.iload_n 1, 1) := by decide +kernel
theorem dX6_canBegin_56 : decode cX6_canBegin 56 = .ok (.bipush 20, 2) := by decide +kernel
theorem dX6_canBegin_58 : decode cX6_canBegin 58 = .ok (.if_icmp .ne 21, 3) := by decide +kernel
theorem dX6_canBegin_61 : decode cX6_canBegin 61 = .ok (.aload_n 0, 1) := by decide +kernel
theorem dX6_canBegin_62 : decode cX6_canBegin 62 = .ok (.getfield 36, 3) := by decide +kernel
theorem dX6_canBegin_65 : decode cX6_canBegin 65 = .ok (.iconst 3, 1) := by decide +kernel
theorem dX6_canBegin_66 : decode cX6_canBegin 66 = .ok (.if_icmp .lt 13, 3) := by decide +kernel
theorem dX6_canBegin_69 : decode cX6_canBegin 69 = .ok (.aload_n 0, 1) := by decide +kernel
theorem dX6_canBegin_70 : decode cX6_canBegin 70 = .ok (.getfield 15, 3) := by decide +kernel
theorem dX6_canBegin_73 : decode cX6_canBegin 73 = .ok (.bipush 7, 2) := by decide +kernel
theorem dX6_canBegin_75 : decode cX6_canBegin 75 = .ok (.invokevirtual 59, 3) := by decide +kernel
theorem dX6_canBegin_78 : decode cX6_canBegin 78 = .ok (.ireturn, 1) := by decide +kernel
theorem dX6_canBegin_79 : decode cX6_canBegin 79 = .ok (.iconst 1, 1) := by decide +kernel
theorem dX6_canBegin_80 : decode cX6_canBegin 80 = .ok (.ireturn, 1) := by decide +kernel
theorem dX6_begin_0 : decode cX6_begin 0 = .ok (.aload_n 0, 1) := by decide +kernel
theorem dX6_begin_1 : decode cX6_begin 1 = .ok (.iload_n 1, 1) := by decide +kernel
theorem dX6_begin_2 : decode cX6_begin 2 = .ok (.invokevirtual 108, 3) := by decide +kernel
theorem dX6_begin_5 : decode cX6_begin 5 = .ok (.istore_n 2, 1) := by decide +kernel
theorem dX6_begin_6 : decode cX6_begin 6 = .ok (.aload_n 0, 1) := by decide +kernel
theorem dX6_begin_7 : decode cX6_begin 7 = .ok (.getfield 19, 3) := by decide +kernel
theorem dX6_begin_10 : decode cX6_begin 10 = .ok (.dup, 1) := by decide +kernel
theorem dX6_begin_11 : decode cX6_begin 11 = .ok (.getfield 105, 3) := by decide +kernel
theorem dX6_begin_14 : decode cX6_begin 14 = .ok (.iconst 1, 1) := by decide +kernel
theorem dX6_begin_15 : decode cX6_begin 15 = .ok (.iadd, 1) := by decide +kernel
theorem dX6_begin_16 : decode cX6_begin 16 = .ok (.putfield 105, 3) := by decide +kernel
theorem dX6_begin_19 : decode cX6_begin 19 = .ok (.iload_n 1, 1) := by decide +kernel
theorem dX6_begin_20 : decode cX6_begin 20 = .ok (.bipush 18, 2) := by decide +kernel
theorem dX6_begin_22 : decode cX6_begin 22 = .ok (.if_icmp .eq 9, 3) := by decide +kernel
theorem dX6_begin_25 : decode cX6_begin 25 = .ok (.iload_n 1, 1) := by decide +kernel
theorem dX6_begin_26 : decode cX6_begin 26 = .ok (.bipush 20, 2) := by decide +kernel
theorem dX6_begin_28 : decode cX6_begin 28 = .ok (.if_icmp .ne 23, 3) := by decide +kernel
theorem dX6_begin_31 : decode cX6_begin 31 = .ok (.aload_n 0, 1) := by decide +kernel
theorem dX6_begin_32 : decode cX6_begin 32 = .ok (.getfield 9, 3) := by decide +kernel
theorem dX6_begin_35 : decode cX6_begin 35 = .ok (.aload_n 0, 1) := by decide +kernel
theorem dX6_begin_36 : decode cX6_begin 36 = .ok (.getfield 36, 3) := by decide +kernel
theorem dX6_begin_39 : decode cX6_begin 39 = .ok (.iload_n 2, 1) := by decide +kernel
theorem dX6_begin_40 : decode cX6_begin 40 = .ok (.iastore, 1) := by decide +kernel
theorem dX6_begin_41 : decode cX6_begin 41 = .ok (.aload_n 0, 1) := by decide +kernel
theorem dX6_begin_42 : decode cX6_begin 42 = .ok (.dup, 1) := by decide +kernel
theorem dX6_begin_43 : decode cX6_begin 43 = .ok (.getfield 36, 3) := by decide +kernel
theorem dX6_begin_46 : decode cX6_begin 46 = .ok (.iconst 1, 1) := by decide +kernel
theorem dX6_begin_47 : decode cX6_begin 47 = .ok (.iadd, 1) := by decide +kernel
theorem dX6_begin_48 : decode cX6_begin 48 = .ok (.putfield 36, 3) := by decide +kernel
theorem dX6_begin_51 : decode cX6_begin 51 = .ok (.aload_n 0, 1) := by decide +kernel
theorem dX6_begin_52 : decode cX6_begin 52 = .ok (.getfield 15, 3) := by decide +kernel
theorem dX6_begin_55 : decode cX6_begin 55 = .ok (.invokevirtual 111, 3) := by decide +kernel
theorem dX6_begin_58 : decode cX6_begin 58 = .ok (.iload_n 2, 1) := by decide +kernel
theorem dX6_begin_59 : decode cX6_begin 59 = .ok (.ireturn, 1) := by decide +kernel
theorem dX6_takeTest_0 : decode cX6_takeTest 0 = .ok (.aload_n 0, 1) := by decide +kernel
theorem dX6_takeTest_1 : decode cX6_takeTest 1 = .ok (.getfield 15, 3) := by decide +kernel
theorem dX6_takeTest_4 : decode cX6_takeTest 4 = .ok (.invokevirtual 62, 3) := by decide +kernel
theorem dX6_takeTest_7 : decode cX6_takeTest 7 = .ok (.istore_n 2, 1) := by decide +kernel
theorem dX6_takeTest_8 : decode cX6_takeTest 8 = .ok (.iload_n 2, 1) := by decide +kernel
theorem dX6_takeTest_9 : decode cX6_takeTest 9 = .ok (.bipush 19, 2) := by decide +kernel
theorem dX6_takeTest_11 : decode cX6_takeTest 11 = .ok (.if_icmp .eq 23, 3) := by decide +kernel
theorem dX6_takeTest_14 : decode cX6_takeTest 14 = .ok (.iload_n 2, 1) := by decide +kernel
theorem dX6_takeTest_15 : decode cX6_takeTest 15 = .ok (.iconst 2, 1) := by decide +kernel
theorem dX6_takeTest_16 : decode cX6_takeTest 16 = .ok (.if_icmp .eq 18, 3) := by decide +kernel
theorem dX6_takeTest_19 : decode cX6_takeTest 19 = .ok (.iload_n 2, 1) := by decide +kernel
theorem dX6_takeTest_20 : decode cX6_takeTest 20 = .ok (.bipush 11, 2) := by decide +kernel
theorem dX6_takeTest_22 : decode cX6_takeTest 22 = .ok (.if_icmp .eq 12, 3) := by decide +kernel
theorem dX6_takeTest_25 : decode cX6_takeTest 25 = .ok (.aload_n 0, 1) := by decide +kernel
theorem dX6_takeTest_26 : decode cX6_takeTest 26 = .ok (.getfield 15, 3) := by decide +kernel
theorem dX6_takeTest_29 : decode cX6_takeTest 29 = .ok (.iconst 2, 1) := by decide +kernel
theorem dX6_takeTest_30 : decode cX6_takeTest 30 = .ok (.invokevirtual 59, 3) := by decide +kernel
theorem dX6_takeTest_33 : decode cX6_takeTest 33 = .ok (.ireturn, 1) := by decide +kernel
theorem dX6_takeTest_34 : decode cX6_takeTest 34 = .ok (.aload_n 0, 1) := by decide +kernel
theorem dX6_takeTest_35 : decode cX6_takeTest 35 = .ok (.getfield 19, 3) := by decide +kernel
theorem dX6_takeTest_38 : decode cX6_takeTest 38 = .ok (.getfield 114, 3) := by decide +kernel
theorem dX6_takeTest_41 : decode cX6_takeTest 41 = .ok (.iload_n 1, 1) := by decide +kernel
theorem dX6_takeTest_42 : decode cX6_takeTest 42 = .ok (.iload_n 2, 1) := by decide +kernel
theorem dX6_takeTest_43 : decode cX6_takeTest 43 = .ok (.iastore, 1) := by decide +kernel
theorem dX6_takeTest_44 : decode cX6_takeTest 44 = .ok (.aload_n 0, 1) := by decide +kernel
theorem dX6_takeTest_45 : decode cX6_takeTest 45 = .ok (.getfield 15, 3) := by decide +kernel
theorem dX6_takeTest_48 : decode cX6_takeTest 48 = .ok (.invokevirtual 111, 3) := by decide +kernel
theorem dX6_takeTest_51 : decode cX6_takeTest 51 = .ok (.iload_n 2, 1) := by decide +kernel
theorem dX6_takeTest_52 : decode cX6_takeTest 52 = .ok (.bipush 19, 2) := by decide +kernel
theorem dX6_takeTest_54 : decode cX6_takeTest 54 = .ok (.if_icmp .ne 23, 3) := by decide +kernel
theorem dX6_takeTest_57 : decode cX6_takeTest 57 = .ok (.aload_n 0, 1) := by decide +kernel
theorem dX6_takeTest_58 : decode cX6_takeTest 58 = .ok (.iload_n 1, 1) := by decide +kernel
theorem dX6_takeTest_59 : decode cX6_takeTest 59 = .ok (.aload_n 0, 1) := by decide +kernel
theorem dX6_takeTest_60 : decode cX6_takeTest 60 = .ok (.getfield 23, 3) := by decide +kernel
theorem dX6_takeTest_63 : decode cX6_takeTest 63 = .ok (.getfield 73, 3) := by decide +kernel
theorem dX6_takeTest_66 : decode cX6_takeTest 66 = .ok (.aload_n 0, 1) := by decide +kernel
theorem dX6_takeTest_67 : decode cX6_takeTest 67 = .ok (.getfield 23, 3) := by decide +kernel
theorem dX6_takeTest_70 : decode cX6_takeTest 70 = .ok (.getfield 79, 3) := by decide +kernel
theorem dX6_takeTest_73 : decode cX6_takeTest 73 = .ok (.invokevirtual 82, 3) := by decide +kernel
theorem dX6_takeTest_76 : decode cX6_takeTest 76 = .ok (.ireturn, 1) := by decide +kernel
theorem dX6_takeTest_77 : decode cX6_takeTest 77 = .ok (.iload_n 2, 1) := by decide +kernel
theorem dX6_takeTest_78 : decode cX6_takeTest 78 = .ok (.iconst 2, 1) := by decide +kernel
theorem dX6_takeTest_79 : decode cX6_takeTest 79 = .ok (.if_icmp .ne 11, 3) := by decide +kernel
theorem dX6_takeTest_82 : decode cX6_takeTest 82 = .ok (.aload_n 0, 1) := by decide +kernel
theorem dX6_takeTest_83 : decode cX6_takeTest 83 = .ok (.iload_n 1, 1) := by decide +kernel
theorem dX6_takeTest_84 : decode cX6_takeTest 84 = .ok (.invokevirtual 117, 3) := by decide +kernel
theorem dX6_takeTest_87 : decode cX6_takeTest 87 = .ok (.goto 22, 3) := by decide +kernel
theorem dX6_takeTest_90 : decode cX6_takeTest 90 = .ok (.aload_n 0, 1) := by decide +kernel
theorem dX6_takeTest_91 : decode cX6_takeTest 91 = .ok (.iload_n 1, 1) := by decide +kernel
theorem dX6_takeTest_92 : decode cX6_takeTest 92 = .ok (.aload_n 0, 1) := by decide +kernel
theorem dX6_takeTest_93 : decode cX6_takeTest 93 = .ok (.getfield 23, 3) := by decide +kernel
theorem dX6_takeTest_96 : decode cX6_takeTest 96 = .ok (.getfield 86, 3) := by decide +kernel
theorem dX6_takeTest_99 : decode cX6_takeTest 99 = .ok (.aload_n 0, 1) := by decide +kernel
theorem dX6_takeTest_100 : decode cX6_takeTest 100 = .ok (.getfield 23, 3) := by decide +kernel
theorem dX6_takeTest_103 : decode cX6_takeTest 103 = .ok (.getfield 89, 3) := by decide +kernel
theorem dX6_takeTest_106 : decode cX6_takeTest 106 = .ok (.invokevirtual 82, 3) := by decide +kernel
theorem dX6_takeTest_109 : decode cX6_takeTest 109 = .ok (.istore_n 3, 1) := by decide +kernel
theorem dX6_takeTest_110 : decode cX6_takeTest 110 = .ok (.iload_n 3, 1) := by decide +kernel
theorem dX6_takeTest_111 : decode cX6_takeTest 111 = .ok (.ifCond .eq 13, 3) := by decide +kernel
theorem dX6_takeTest_114 : decode cX6_takeTest 114 = .ok (.aload_n 0, 1) := by decide +kernel
theorem dX6_takeTest_115 : decode cX6_takeTest 115 = .ok (.getfield 15, 3) := by decide +kernel
theorem dX6_takeTest_118 : decode cX6_takeTest 118 = .ok (.invokevirtual 120, 3) := by decide +kernel
theorem dX6_takeTest_121 : decode cX6_takeTest 121 = .ok (.ifCond .ne 5, 3) := by decide +kernel
theorem dX6_takeTest_124 : decode cX6_takeTest 124 = .ok (.iconst 0, 1) := by decide +kernel
theorem dX6_takeTest_125 : decode cX6_takeTest 125 = .ok (.ireturn, 1) := by decide +kernel
theorem dX6_takeTest_126 : decode cX6_takeTest 126 = .ok (.aload_n 0, 1) := by decide +kernel
theorem dX6_takeTest_127 : decode cX6_takeTest 127 = .ok (.getfield 19, 3) := by decide +kernel
theorem dX6_takeTest_130 : decode cX6_takeTest 130 = .ok (.getfield 123, 3) := by decide +kernel
theorem dX6_takeTest_133 : decode cX6_takeTest 133 = .ok (.iload_n 1, 1) := by decide +kernel
theorem dX6_takeTest_134 : decode cX6_takeTest 134 = .ok (.aload_n 0, 1) := by decide +kernel
theorem dX6_takeTest_135 : decode cX6_takeTest 135 = .ok (.getfield 15, 3) := by decide +kernel
theorem dX6_takeTest_138 : decode cX6_takeTest 138 = .ok (.getfield 126, 3) := by decide +kernel
theorem dX6_takeTest_141 : decode cX6_takeTest 141 = .ok (.iastore, 1) := by decide +kernel
theorem dX6_takeTest_142 : decode cX6_takeTest 142 = .ok (.aload_n 0, 1) := by decide +kernel
theorem dX6_takeTest_143 : decode cX6_takeTest 143 = .ok (.iload_n 1, 1) := by decide +kernel
theorem dX6_takeTest_144 : decode cX6_takeTest 144 = .ok (.iconst 0, 1) := by decide +kernel
theorem dX6_takeTest_145 : decode cX6_takeTest 145 = .ok (.sipush 9999, 3) := by decide +kernel
theorem dX6_takeTest_148 : decode cX6_takeTest 148 = .ok (.invokevirtual 95, 3) := by decide +kernel
theorem dX6_takeTest_151 : decode cX6_takeTest 151 = .ok (.ireturn, 1) := by decide +kernel
theorem dX6_takeEnd_0 : decode cX6_takeEnd 0 = .ok (.aload_n 0, 1) := by decide +kernel
theorem dX6_takeEnd_1 : decode cX6_takeEnd 1 = .ok (.getfield 36, 3) := by decide +kernel
theorem dX6_takeEnd_4 : decode cX6_takeEnd 4 = .ok (.ifCond .ne 12, 3) := by decide +kernel
theorem dX6_takeEnd_7 : decode cX6_takeEnd 7 = .ok (.aload_n 0, 1) := by decide +kernel
theorem dX6_takeEnd_8 : decode cX6_takeEnd 8 = .ok (.getfield 15, 3) := by decide +kernel
theorem dX6_takeEnd_11 : decode cX6_takeEnd 11 = .ok (.iconst 2, 1) := by decide +kernel
theorem dX6_takeEnd_12 : decode cX6_takeEnd 12 = .ok (.invokevirtual 59, 3) := by decide +kernel
theorem dX6_takeEnd_15 : decode cX6_takeEnd 15 = .ok (.ireturn, 1) := by decide +kernel
theorem dX6_takeEnd_16 : decode cX6_takeEnd 16 = .ok (.aload_n 0, 1) := by decide +kernel
theorem dX6_takeEnd_17 : decode cX6_takeEnd 17 = .ok (.dup, 1) := by decide +kernel
theorem dX6_takeEnd_18 : decode cX6_takeEnd 18 = .ok (.getfield 36, 3) := by decide +kernel
theorem dX6_takeEnd_21 : decode cX6_takeEnd 21 = .ok (.iconst 1, 1) := by decide +kernel
theorem dX6_takeEnd_22 : decode cX6_takeEnd 22 = .ok (.isub, 1) := by decide +kernel
theorem dX6_takeEnd_23 : decode cX6_takeEnd 23 = .ok (.putfield 36, 3) := by decide +kernel
theorem dX6_takeEnd_26 : decode cX6_takeEnd 26 = .ok (.aload_n 0, 1) := by decide +kernel
theorem dX6_takeEnd_27 : decode cX6_takeEnd 27 = .ok (.getfield 9, 3) := by decide +kernel
theorem dX6_takeEnd_30 : decode cX6_takeEnd 30 = .ok (.aload_n 0, 1) := by decide +kernel
theorem dX6_takeEnd_31 : decode cX6_takeEnd 31 = .ok (.getfield 36, 3) := by decide +kernel
theorem dX6_takeEnd_34 : decode cX6_takeEnd 34 = .ok (.iaload, 1) := by decide +kernel
theorem dX6_takeEnd_35 : decode cX6_takeEnd 35 = .ok (.istore_n 1, 1) := by decide +kernel
theorem dX6_takeEnd_36 : decode cX6_takeEnd 36 = .ok (.aload_n 0, 1) := by decide +kernel
theorem dX6_takeEnd_37 : decode cX6_takeEnd 37 = .ok (.bipush 21, 2) := by decide +kernel
theorem dX6_takeEnd_39 : decode cX6_takeEnd 39 = .ok (.invokevirtual 108, 3) := by decide +kernel
theorem dX6_takeEnd_42 : decode cX6_takeEnd 42 = .ok (.istore_n 2, 1) := by decide +kernel
theorem dX6_takeEnd_43 : decode cX6_takeEnd 43 = .ok (.aload_n 0, 1) := by decide +kernel
theorem dX6_takeEnd_44 : decode cX6_takeEnd 44 = .ok (.getfield 19, 3) := by decide +kernel
theorem dX6_takeEnd_47 : decode cX6_takeEnd 47 = .ok (.getfield 129, 3) := by decide +kernel
theorem dX6_takeEnd_50 : decode cX6_takeEnd 50 = .ok (.iload_n 1, 1) := by decide +kernel
theorem dX6_takeEnd_51 : decode cX6_takeEnd 51 = .ok (.iload_n 2, 1) := by decide +kernel
theorem dX6_takeEnd_52 : decode cX6_takeEnd 52 = .ok (.iastore, 1) := by decide +kernel
theorem dX6_takeEnd_53 : decode cX6_takeEnd 53 = .ok (.aload_n 0, 1) := by decide +kernel
theorem dX6_takeEnd_54 : decode cX6_takeEnd 54 = .ok (.getfield 19, 3) := by decide +kernel
theorem dX6_takeEnd_57 : decode cX6_takeEnd 57 = .ok (.getfield 129, 3) := by decide +kernel
theorem dX6_takeEnd_60 : decode cX6_takeEnd 60 = .ok (.iload_n 2, 1) := by decide +kernel
theorem dX6_takeEnd_61 : decode cX6_takeEnd 61 = .ok (.iload_n 1, 1) := by decide +kernel
theorem dX6_takeEnd_62 : decode cX6_takeEnd 62 = .ok (.iastore, 1) := by decide +kernel
theorem dX6_takeEnd_63 : decode cX6_takeEnd 63 = .ok (.aload_n 0, 1) := by decide +kernel
theorem dX6_takeEnd_64 : decode cX6_takeEnd 64 = .ok (.getfield 15, 3) := by decide +kernel
theorem dX6_takeEnd_67 : decode cX6_takeEnd 67 = .ok (.invokevirtual 111, 3) := by decide +kernel
theorem dX6_takeEnd_70 : decode cX6_takeEnd 70 = .ok (.aload_n 0, 1) := by decide +kernel
theorem dX6_takeEnd_71 : decode cX6_takeEnd 71 = .ok (.getfield 15, 3) := by decide +kernel
theorem dX6_takeEnd_74 : decode cX6_takeEnd 74 = .ok (.invokevirtual 102, 3) := by decide +kernel
theorem dX6_takeEnd_77 : decode cX6_takeEnd 77 = .ok (.ireturn, 1) := by decide +kernel
theorem dX6_addEntry_0 : decode cX6_addEntry 0 = .ok (.aload_n 0, 1) := by decide +kernel
theorem dX6_addEntry_1 : decode cX6_addEntry 1 = .ok (.getfield 19, 3) := by decide +kernel
theorem dX6_addEntry_4 : decode cX6_addEntry 4 = .ok (.getfield 132, 3) := by decide +kernel
theorem dX6_addEntry_7 : decode cX6_addEntry 7 = .ok (.istore_n 2, 1) := by decide +kernel
theorem dX6_addEntry_8 : decode cX6_addEntry 8 = .ok (.aload_n 0, 1) := by decide +kernel
theorem dX6_addEntry_9 : decode cX6_addEntry 9 = .ok (.getfield 19, 3) := by decide +kernel
theorem dX6_addEntry_12 : decode cX6_addEntry 12 = .ok (.getfield 114, 3) := by decide +kernel
theorem dX6_addEntry_15 : decode cX6_addEntry 15 = .ok (.iload_n 2, 1) := by decide +kernel
theorem dX6_addEntry_16 : decode cX6_addEntry 16 = .ok (.iload_n 1, 1) := by decide +kernel
theorem dX6_addEntry_17 : decode cX6_addEntry 17 = .ok (.iastore, 1) := by decide +kernel
theorem dX6_addEntry_18 : decode cX6_addEntry 18 = .ok (.aload_n 0, 1) := by decide +kernel
theorem dX6_addEntry_19 : decode cX6_addEntry 19 = .ok (.getfield 19, 3) := by decide +kernel
theorem dX6_addEntry_22 : decode cX6_addEntry 22 = .ok (.dup, 1) := by decide +kernel
theorem dX6_addEntry_23 : decode cX6_addEntry 23 = .ok (.getfield 132, 3) := by decide +kernel
theorem dX6_addEntry_26 : decode cX6_addEntry 26 = .ok (.iconst 1, 1) := by decide +kernel
theorem dX6_addEntry_27 : decode cX6_addEntry 27 = .ok (.iadd, 1) := by decide +kernel
theorem dX6_addEntry_28 : decode cX6_addEntry 28 = .ok (.putfield 132, 3) := by decide +kernel
theorem dX6_addEntry_31 : decode cX6_addEntry 31 = .ok (.iload_n 2, 1) := by decide +kernel
theorem dX6_addEntry_32 : decode cX6_addEntry 32 = .ok (.ireturn, 1) := by decide +kernel
theorem dX6_takeName_0 : decode cX6_takeName 0 = .ok (.aload_n 0, 1) := by decide +kernel
theorem dX6_takeName_1 : decode cX6_takeName 1 = .ok (.getfield 15, 3) := by decide +kernel
theorem dX6_takeName_4 : decode cX6_takeName 4 = .ok (.invokevirtual 135, 3) := by decide +kernel
theorem dX6_takeName_7 : decode cX6_takeName 7 = .ok (.ifCond .ne 12, 3) := by decide +kernel
theorem dX6_takeName_10 : decode cX6_takeName 10 = .ok (.aload_n 0, 1) := by decide +kernel
theorem dX6_takeName_11 : decode cX6_takeName 11 = .ok (.getfield 15, 3) := by decide +kernel
theorem dX6_takeName_14 : decode cX6_takeName 14 = .ok (.iconst 2, 1) := by decide +kernel
theorem dX6_takeName_15 : decode cX6_takeName 15 = .ok (.invokevirtual 59, 3) := by decide +kernel
theorem dX6_takeName_18 : decode cX6_takeName 18 = .ok (.ireturn, 1) := by decide +kernel
theorem dX6_takeName_19 : decode cX6_takeName 19 = .ok (.aload_n 2, 1) := by decide +kernel
theorem dX6_takeName_20 : decode cX6_takeName 20 = .ok (.iload_n 3, 1) := by decide +kernel
theorem dX6_takeName_21 : decode cX6_takeName 21 = .ok (.aload_n 0, 1) := by decide +kernel
theorem dX6_takeName_22 : decode cX6_takeName 22 = .ok (.getfield 15, 3) := by decide +kernel
theorem dX6_takeName_25 : decode cX6_takeName 25 = .ok (.getfield 138, 3) := by decide +kernel
theorem dX6_takeName_28 : decode cX6_takeName 28 = .ok (.invokestatic 142, 3) := by decide +kernel
theorem dX6_takeName_31 : decode cX6_takeName 31 = .ok (.istore 4, 2) := by decide +kernel
theorem dX6_takeName_33 : decode cX6_takeName 33 = .ok (.iload 4, 2) := by decide +kernel
theorem dX6_takeName_35 : decode cX6_takeName 35 = .ok (.iconst (-1), 1) := by decide +kernel
theorem dX6_takeName_36 : decode cX6_takeName 36 = .ok (.if_icmp .ne 12, 3) := by decide +kernel
theorem dX6_takeName_39 : decode cX6_takeName 39 = .ok (.aload_n 0, 1) := by decide +kernel
theorem dX6_takeName_40 : decode cX6_takeName 40 = .ok (.getfield 15, 3) := by decide +kernel
theorem dX6_takeName_43 : decode cX6_takeName 43 = .ok (.iconst 3, 1) := by decide +kernel
theorem dX6_takeName_44 : decode cX6_takeName 44 = .ok (.invokevirtual 59, 3) := by decide +kernel
theorem dX6_takeName_47 : decode cX6_takeName 47 = .ok (.ireturn, 1) := by decide +kernel
theorem dX6_takeName_48 : decode cX6_takeName 48 = .ok (.aload_n 0, 1) := by decide +kernel
theorem dX6_takeName_49 : decode cX6_takeName 49 = .ok (.getfield 19, 3) := by decide +kernel
theorem dX6_takeName_52 : decode cX6_takeName 52 = .ok (.getfield 146, 3) := by decide +kernel
theorem dX6_takeName_55 : decode cX6_takeName 55 = .ok (.iload_n 1, 1) := by decide +kernel
theorem dX6_takeName_56 : decode cX6_takeName 56 = .ok (.iload 4, 2) := by decide +kernel
theorem dX6_takeName_58 : decode cX6_takeName 58 = .ok (.iastore, 1) := by decide +kernel
theorem dX6_takeName_59 : decode cX6_takeName 59 = .ok (.aload_n 0, 1) := by decide +kernel
theorem dX6_takeName_60 : decode cX6_takeName 60 = .ok (.getfield 15, 3) := by decide +kernel
theorem dX6_takeName_63 : decode cX6_takeName 63 = .ok (.invokevirtual 111, 3) := by decide +kernel
theorem dX6_takeName_66 : decode cX6_takeName 66 = .ok (.iconst 1, 1) := by decide +kernel
theorem dX6_takeName_67 : decode cX6_takeName 67 = .ok (.ireturn, 1) := by decide +kernel
theorem dX6_takeBedNumber_0 : decode cX6_takeBedNumber 0 = .ok (.aload_n 0, 1) := by decide +kernel
theorem dX6_takeBedNumber_1 : decode cX6_takeBedNumber 1 = .ok (.getfield 15, 3) := by decide +kernel
theorem dX6_takeBedNumber_4 : decode cX6_takeBedNumber 4 = .ok (.iconst 0, 1) := by decide +kernel
theorem dX6_takeBedNumber_5 : decode cX6_takeBedNumber 5 = .ok (.aload_n 0, 1) := by decide +kernel
theorem dX6_takeBedNumber_6 : decode cX6_takeBedNumber 6 = .ok (.getfield 23, 3) := by decide +kernel
theorem dX6_takeBedNumber_9 : decode cX6_takeBedNumber 9 = .ok (.getfield 92, 3) := by decide +kernel
theorem dX6_takeBedNumber_12 : decode cX6_takeBedNumber 12 = .ok (.iconst 1, 1) := by decide +kernel
theorem dX6_takeBedNumber_13 : decode cX6_takeBedNumber 13 = .ok (.isub, 1) := by decide +kernel
theorem dX6_takeBedNumber_14 : decode cX6_takeBedNumber 14 = .ok (.invokevirtual 149, 3) := by decide +kernel
theorem dX6_takeBedNumber_17 : decode cX6_takeBedNumber 17 = .ok (.istore_n 2, 1) := by decide +kernel
theorem dX6_takeBedNumber_18 : decode cX6_takeBedNumber 18 = .ok (.aload_n 0, 1) := by decide +kernel
theorem dX6_takeBedNumber_19 : decode cX6_takeBedNumber 19 = .ok (.getfield 19, 3) := by decide +kernel
theorem dX6_takeBedNumber_22 : decode cX6_takeBedNumber 22 = .ok (.getfield 146, 3) := by decide +kernel
theorem dX6_takeBedNumber_25 : decode cX6_takeBedNumber 25 = .ok (.iload_n 1, 1) := by decide +kernel
theorem dX6_takeBedNumber_26 : decode cX6_takeBedNumber 26 = .ok (.iload_n 2, 1) := by decide +kernel
theorem dX6_takeBedNumber_27 : decode cX6_takeBedNumber 27 = .ok (.ifCond .eq 13, 3) := by decide +kernel
theorem dX6_takeBedNumber_30 : decode cX6_takeBedNumber 30 = .ok (.aload_n 0, 1) := by decide +kernel
theorem dX6_takeBedNumber_31 : decode cX6_takeBedNumber 31 = .ok (.getfield 15, 3) := by decide +kernel
theorem dX6_takeBedNumber_34 : decode cX6_takeBedNumber 34 = .ok (.getfield 152, 3) := by decide +kernel
theorem dX6_takeBedNumber_37 : decode cX6_takeBedNumber 37 = .ok (.goto 4, 3) := by decide +kernel
theorem dX6_takeBedNumber_40 : decode cX6_takeBedNumber 40 = .ok (.iconst 0, 1) := by decide +kernel
theorem dX6_takeBedNumber_41 : decode cX6_takeBedNumber 41 = .ok (.iastore, 1) := by decide +kernel
theorem dX6_takeBedNumber_42 : decode cX6_takeBedNumber 42 = .ok (.iload_n 2, 1) := by decide +kernel
theorem dX6_takeBedNumber_43 : decode cX6_takeBedNumber 43 = .ok (.ireturn, 1) := by decide +kernel
theorem dX6_takeNumber_0 : decode cX6_takeNumber 0 = .ok (.aload_n 0, 1) := by decide +kernel
theorem dX6_takeNumber_1 : decode cX6_takeNumber 1 = .ok (.getfield 15, 3) := by decide +kernel
theorem dX6_takeNumber_4 : decode cX6_takeNumber 4 = .ok (.iload_n 2, 1) := by decide +kernel
theorem dX6_takeNumber_5 : decode cX6_takeNumber 5 = .ok (.iload_n 3, 1) := by decide +kernel
theorem dX6_takeNumber_6 : decode cX6_takeNumber 6 = .ok (.invokevirtual 149, 3) := by decide +kernel
theorem dX6_takeNumber_9 : decode cX6_takeNumber 9 = .ok (.istore 4, 2) := by decide +kernel
theorem dX6_takeNumber_11 : decode cX6_takeNumber 11 = .ok (.aload_n 0, 1) := by decide +kernel
theorem dX6_takeNumber_12 : decode cX6_takeNumber 12 = .ok (.getfield 19, 3) := by decide +kernel
theorem dX6_takeNumber_15 : decode cX6_takeNumber 15 = .ok (.getfield 155, 3) := by decide +kernel
theorem dX6_takeNumber_18 : decode cX6_takeNumber 18 = .ok (.iload_n 1, 1) := by decide +kernel
theorem dX6_takeNumber_19 : decode cX6_takeNumber 19 = .ok (.iload 4, 2) := by decide +kernel
theorem dX6_takeNumber_21 : decode cX6_takeNumber 21 = .ok (.ifCond .eq 13, 3) := by decide +kernel
theorem dX6_takeNumber_24 : decode cX6_takeNumber 24 = .ok (.aload_n 0, 1) := by decide +kernel
theorem dX6_takeNumber_25 : decode cX6_takeNumber 25 = .ok (.getfield 15, 3) := by decide +kernel
theorem dX6_takeNumber_28 : decode cX6_takeNumber 28 = .ok (.getfield 152, 3) := by decide +kernel
theorem dX6_takeNumber_31 : decode cX6_takeNumber 31 = .ok (.goto 4, 3) := by decide +kernel
theorem dX6_takeNumber_34 : decode cX6_takeNumber 34 = .ok (.iconst 0, 1) := by decide +kernel
theorem dX6_takeNumber_35 : decode cX6_takeNumber 35 = .ok (.iastore, 1) := by decide +kernel
theorem dX6_takeNumber_36 : decode cX6_takeNumber 36 = .ok (.iload 4, 2) := by decide +kernel
theorem dX6_takeNumber_38 : decode cX6_takeNumber 38 = .ok (.ireturn, 1) := by decide +kernel
theorem dX7_init_0 : decode cX7_init 0 = .ok (.aload_n 0, 1) := by decide +kernel
theorem dX7_init_1 : decode cX7_init 1 = .ok (.invokespecial 3, 3) := by decide +kernel
theorem dX7_init_4 : decode cX7_init 4 = .ok (.aload_n 0, 1) := by decide +kernel
theorem dX7_init_5 : decode cX7_init 5 = .ok (.bipush 23, 2) := by decide +kernel
theorem dX7_init_7 : decode cX7_init 7 = .ok (.newarray .long, 2) := by decide +kernel
theorem dX7_init_9 : decode cX7_init 9 = .ok (.putfield 9, 3) := by decide +kernel
theorem dX7_init_12 : decode cX7_init 12 = .ok (.aload_n 0, 1) := by decide +kernel
theorem dX7_init_13 : decode cX7_init 13 = .ok (.aload_n 1, 1) := by decide +kernel
theorem dX7_init_14 : decode cX7_init 14 = .ok (.putfield 15, 3) := by decide +kernel
theorem dX7_init_17 : decode cX7_init 17 = .ok (.iconst 0, 1) := by decide +kernel
theorem dX7_init_18 : decode cX7_init 18 = .ok (.istore_n 2, 1) := by decide +kernel
theorem dX7_init_19 : decode cX7_init 19 = .ok (.lconst 0, 1) := by decide +kernel
theorem dX7_init_20 : decode cX7_init 20 = .ok (.lstore_n 3, 1) := by decide +kernel
theorem dX7_init_21 : decode cX7_init 21 = .ok (.iconst 0, 1) := by decide +kernel
theorem dX7_init_22 : decode cX7_init 22 = .ok (.istore 5, 2) := by decide +kernel
theorem dX7_init_24 : decode cX7_init 24 = .ok (.iload 5, 2) := by decide +kernel
theorem dX7_init_26 : decode cX7_init 26 = .ok (.ldc 19, 2) := by decide +kernel
theorem dX7_init_28 : decode cX7_init 28 = .ok (.invokevirtual 21, 3) := by decide +kernel
theorem dX7_init_31 : decode cX7_init 31 = .ok (.if_icmp .ge 61, 3) := by decide +kernel
theorem dX7_init_34 : decode cX7_init 34 = .ok (.ldc 19, 2) := by decide +kernel
theorem dX7_init_36 : decode cX7_init 36 = .ok (.iload 5, 2) := by decide +kernel
theorem dX7_init_38 : decode cX7_init 38 = .ok (.invokevirtual 27, 3) := by decide +kernel
theorem dX7_init_41 : decode cX7_init 41 = .ok (.istore 6, 2) := by decide +kernel
theorem dX7_init_43 : decode cX7_init 43 = .ok (.iload 6, 2) := by decide +kernel
theorem dX7_init_45 : decode cX7_init 45 = .ok (.bipush 32, 2) := by decide +kernel
theorem dX7_init_47 : decode cX7_init 47 = .ok (.if_icmp .eq 21, 3) := by decide +kernel
theorem dX7_init_50 : decode cX7_init 50 = .ok (.lload_n 3, 1) := by decide +kernel
theorem dX7_init_51 : decode cX7_init 51 = .ok (.ldc2_w 31, 3) := by decide +kernel
theorem dX7_init_54 : decode cX7_init 54 = .ok (.lmul, 1) := by decide +kernel
theorem dX7_init_55 : decode cX7_init 55 = .ok (.iload 6, 2) := by decide +kernel
theorem dX7_init_57 : decode cX7_init 57 = .ok (.bipush 97, 2) := by decide +kernel
theorem dX7_init_59 : decode cX7_init 59 = .ok (.isub, 1) := by decide +kernel
theorem dX7_init_60 : decode cX7_init 60 = .ok (.iconst 1, 1) := by decide +kernel
theorem dX7_init_61 : decode cX7_init 61 = .ok (.iadd, 1) := by decide +kernel
theorem dX7_init_62 : decode cX7_init 62 = .ok (.i2l, 1) := by decide +kernel
theorem dX7_init_63 : decode cX7_init 63 = .ok (.ladd, 1) := by decide +kernel
theorem dX7_init_64 : decode cX7_init 64 = .ok (.lstore_n 3, 1) := by decide +kernel
theorem dX7_init_65 : decode cX7_init 65 = .ok (.goto 21, 3) := by decide +kernel
theorem dX7_init_68 : decode cX7_init 68 = .ok (.iload_n 2, 1) := by decide +kernel
theorem dX7_init_69 : decode cX7_init 69 = .ok (.bipush 23, 2) := by decide +kernel
theorem dX7_init_71 : decode cX7_init 71 = .ok (.if_icmp .ge 15, 3) := by decide +kernel
theorem dX7_init_74 : decode cX7_init 74 = .ok (.aload_n 0, 1) := by decide +kernel
theorem dX7_init_75 : decode cX7_init 75 = .ok (.getfield 9, 3) := by decide +kernel
theorem dX7_init_78 : decode cX7_init 78 = .ok (.iload_n 2, 1) := by decide +kernel
theorem dX7_init_79 : decode cX7_init 79 = .ok (.lload_n 3, 1) := by decide +kernel
theorem dX7_init_80 : decode cX7_init 80 = .ok (.lastore, 1) := by decide +kernel
theorem dX7_init_81 : decode cX7_init 81 = .ok (.lconst 0, 1) := by decide +kernel
theorem dX7_init_82 : decode cX7_init 82 = .ok (.lstore_n 3, 1) := by decide +kernel
theorem dX7_init_83 : decode cX7_init 83 = .ok (.iinc 2 1, 3) := by decide +kernel
theorem dX7_init_86 : decode cX7_init 86 = .ok (.iinc 5 1, 3) := by decide +kernel
theorem dX7_init_89 : decode cX7_init 89 = .ok (.goto (-65), 3) := by decide +kernel
theorem dX7_init_92 : decode cX7_init 92 = .ok (.return_, 1) := by decide +kernel
theorem dX7_open_0 : decode cX7_open 0 = .ok (.aload_n 0, 1) := by decide +kernel
theorem dX7_open_1 : decode cX7_open 1 = .ok (.iload_n 1, 1) := by decide +kernel
theorem dX7_open_2 : decode cX7_open 2 = .ok (.aload_n 0, 1) := by decide +kernel
theorem dX7_open_3 : decode cX7_open 3 = .ok (.getfield 15, 3) := by decide +kernel
theorem dX7_open_6 : decode cX7_open 6 = .ok (.arraylength, 1) := by decide +kernel
theorem dX7_open_7 : decode cX7_open 7 = .ok (.invokestatic 33, 3) := by decide +kernel
theorem dX7_open_10 : decode cX7_open 10 = .ok (.putfield 39, 3) := by decide +kernel
theorem dX7_open_13 : decode cX7_open 13 = .ok (.aload_n 0, 1) := by decide +kernel
theorem dX7_open_14 : decode cX7_open 14 = .ok (.iconst 0, 1) := by decide +kernel
theorem dX7_open_15 : decode cX7_open 15 = .ok (.putfield 42, 3) := by decide +kernel
theorem dX7_open_18 : decode cX7_open 18 = .ok (.aload_n 0, 1) := by decide +kernel
theorem dX7_open_19 : decode cX7_open 19 = .ok (.iconst 0, 1) := by decide +kernel
theorem dX7_open_20 : decode cX7_open 20 = .ok (.putfield 45, 3) := by decide +kernel
theorem dX7_open_23 : decode cX7_open 23 = .ok (.aload_n 0, 1) := by decide +kernel
theorem dX7_open_24 : decode cX7_open 24 = .ok (.iconst (-1), 1) := by decide +kernel
theorem dX7_open_25 : decode cX7_open 25 = .ok (.putfield 48, 3) := by decide +kernel
theorem dX7_open_28 : decode cX7_open 28 = .ok (.aload_n 0, 1) := by decide +kernel
theorem dX7_open_29 : decode cX7_open 29 = .ok (.invokevirtual 51, 3) := by decide +kernel
theorem dX7_open_32 : decode cX7_open 32 = .ok (.return_, 1) := by decide +kernel
theorem dX7_move_0 : decode cX7_move 0 = .ok (.aload_n 0, 1) := by decide +kernel
theorem dX7_move_1 : decode cX7_move 1 = .ok (.aload_n 0, 1) := by decide +kernel
theorem dX7_move_2 : decode cX7_move 2 = .ok (.getfield 42, 3) := by decide +kernel
theorem dX7_move_5 : decode cX7_move 5 = .ok (.putfield 54, 3) := by decide +kernel
theorem dX7_move_8 : decode cX7_move 8 = .ok (.aload_n 0, 1) := by decide +kernel
theorem dX7_move_9 : decode cX7_move 9 = .ok (.getfield 54, 3) := by decide +kernel
theorem dX7_move_12 : decode cX7_move 12 = .ok (.aload_n 0, 1) := by decide +kernel
theorem dX7_move_13 : decode cX7_move 13 = .ok (.getfield 39, 3) := by decide +kernel
theorem dX7_move_16 : decode cX7_move 16 = .ok (.if_icmp .ge 44, 3) := by decide +kernel
theorem dX7_move_19 : decode cX7_move 19 = .ok (.aload_n 0, 1) := by decide +kernel
theorem dX7_move_20 : decode cX7_move 20 = .ok (.getfield 15, 3) := by decide +kernel
theorem dX7_move_23 : decode cX7_move 23 = .ok (.aload_n 0, 1) := by decide +kernel
theorem dX7_move_24 : decode cX7_move 24 = .ok (.getfield 54, 3) := by decide +kernel
theorem dX7_move_27 : decode cX7_move 27 = .ok (.baload, 1) := by decide +kernel
theorem dX7_move_28 : decode cX7_move 28 = .ok (.bipush 10, 2) := by decide +kernel
theorem dX7_move_30 : decode cX7_move 30 = .ok (.if_icmp .eq 17, 3) := by decide +kernel
theorem dX7_move_33 : decode cX7_move 33 = .ok (.aload_n 0, 1) := by decide +kernel
theorem dX7_move_34 : decode cX7_move 34 = .ok (.getfield 15, 3) := by decide +kernel
theorem dX7_move_37 : decode cX7_move 37 = .ok (.aload_n 0, 1) := by decide +kernel
theorem dX7_move_38 : decode cX7_move 38 = .ok (.getfield 54, 3) := by decide +kernel
theorem dX7_move_41 : decode cX7_move 41 = .ok (.baload, 1) := by decide +kernel
theorem dX7_move_42 : decode cX7_move 42 = .ok (.bipush 32, 2) := by decide +kernel
theorem dX7_move_44 : decode cX7_move 44 = .ok (.if_icmp .ne 16, 3) := by decide +kernel
theorem dX7_move_47 : decode cX7_move 47 = .ok (.aload_n 0, 1) := by decide +kernel
theorem dX7_move_48 : decode cX7_move 48 = .ok (.dup, 1) := by decide +kernel
theorem dX7_move_49 : decode cX7_move 49 = .ok (.getfield 54, 3) := by decide +kernel
theorem dX7_move_52 : decode cX7_move 52 = .ok (.iconst 1, 1) := by decide +kernel
theorem dX7_move_53 : decode cX7_move 53 = .ok (.iadd, 1) := by decide +kernel
theorem dX7_move_54 : decode cX7_move 54 = .ok (.putfield 54, 3) := by decide +kernel
theorem dX7_move_57 : decode cX7_move 57 = .ok (.goto (-49), 3) := by decide +kernel
theorem dX7_move_60 : decode cX7_move 60 = .ok (.aload_n 0, 1) := by decide +kernel
theorem dX7_move_61 : decode cX7_move 61 = .ok (.aload_n 0, 1) := by decide +kernel
theorem dX7_move_62 : decode cX7_move 62 = .ok (.getfield 54, 3) := by decide +kernel
theorem dX7_move_65 : decode cX7_move 65 = .ok (.putfield 42, 3) := by decide +kernel
theorem dX7_move_68 : decode cX7_move 68 = .ok (.aload_n 0, 1) := by decide +kernel
theorem dX7_move_69 : decode cX7_move 69 = .ok (.getfield 54, 3) := by decide +kernel
theorem dX7_move_72 : decode cX7_move 72 = .ok (.aload_n 0, 1) := by decide +kernel
theorem dX7_move_73 : decode cX7_move 73 = .ok (.getfield 39, 3) := by decide +kernel
theorem dX7_move_76 : decode cX7_move 76 = .ok (.if_icmp .ge 15, 3) := by decide +kernel
theorem dX7_move_79 : decode cX7_move 79 = .ok (.aload_n 0, 1) := by decide +kernel
theorem dX7_move_80 : decode cX7_move 80 = .ok (.getfield 15, 3) := by decide +kernel
theorem dX7_move_83 : decode cX7_move 83 = .ok (.aload_n 0, 1) := by decide +kernel
theorem dX7_move_84 : decode cX7_move 84 = .ok (.getfield 54, 3) := by decide +kernel
theorem dX7_move_87 : decode cX7_move 87 = .ok (.baload, 1) := by decide +kernel
theorem dX7_move_88 : decode cX7_move 88 = .ok (.goto 4, 3) := by decide +kernel
theorem dX7_move_91 : decode cX7_move 91 = .ok (.iconst 0, 1) := by decide +kernel
theorem dX7_move_92 : decode cX7_move 92 = .ok (.istore_n 1, 1) := by decide +kernel
theorem dX7_move_93 : decode cX7_move 93 = .ok (.aload_n 0, 1) := by decide +kernel
theorem dX7_move_94 : decode cX7_move 94 = .ok (.getfield 54, 3) := by decide +kernel
theorem dX7_move_97 : decode cX7_move 97 = .ok (.aload_n 0, 1) := by decide +kernel
theorem dX7_move_98 : decode cX7_move 98 = .ok (.getfield 39, 3) := by decide +kernel
theorem dX7_move_101 : decode cX7_move 101 = .ok (.if_icmp .lt 11, 3) := by decide +kernel
theorem dX7_move_104 : decode cX7_move 104 = .ok (.aload_n 0, 1) := by decide +kernel
theorem dX7_move_105 : decode cX7_move 105 = .ok (.iconst 0, 1) := by decide +kernel
theorem dX7_move_106 : decode cX7_move 106 = .ok (.putfield 57, 3) := by decide +kernel
theorem dX7_move_109 : decode cX7_move 109 = .ok (.goto 46, 3) := by decide +kernel
theorem dX7_move_112 : decode cX7_move 112 = .ok (.iload_n 1, 1) := by decide +kernel
theorem dX7_move_113 : decode cX7_move 113 = .ok (.bipush 97, 2) := by decide +kernel
theorem dX7_move_115 : decode cX7_move 115 = .ok (.if_icmp .lt 16, 3) := by decide +kernel
theorem dX7_move_118 : decode cX7_move 118 = .ok (.iload_n 1, 1) := by decide +kernel
theorem dX7_move_119 : decode cX7_move 119 = .ok (.bipush 122, 2) := by decide +kernel
theorem dX7_move_121 : decode cX7_move 121 = .ok (.if_icmp .gt 10, 3) := by decide +kernel
theorem dX7_move_124 : decode cX7_move 124 = .ok (.aload_n 0, 1) := by decide +kernel
theorem dX7_move_125 : decode cX7_move 125 = .ok (.invokevirtual 60, 3) := by decide +kernel
theorem dX7_move_128 : decode cX7_move 128 = .ok (.goto 27, 3) := by decide +kernel
theorem dX7_move_131 : decode cX7_move 131 = .ok (.iload_n 1, 1) := by decide +kernel
theorem dX7_move_132 : decode cX7_move 132 = .ok (.bipush 48, 2) := by decide +kernel
theorem dX7_move_134 : decode cX7_move 134 = .ok (.if_icmp .lt 16, 3) := by decide +kernel
theorem dX7_move_137 : decode cX7_move 137 = .ok (.iload_n 1, 1) := by decide +kernel
theorem dX7_move_138 : decode cX7_move 138 = .ok (.bipush 57, 2) := by decide +kernel
theorem dX7_move_140 : decode cX7_move 140 = .ok (.if_icmp .gt 10, 3) := by decide +kernel
theorem dX7_move_143 : decode cX7_move 143 = .ok (.aload_n 0, 1) := by decide +kernel
theorem dX7_move_144 : decode cX7_move 144 = .ok (.invokevirtual 63, 3) := by decide +kernel
theorem dX7_move_147 : decode cX7_move 147 = .ok (.goto 8, 3) := by decide +kernel
theorem dX7_move_150 : decode cX7_move 150 = .ok (.aload_n 0, 1) := by decide +kernel
theorem dX7_move_151 : decode cX7_move 151 = .ok (.iload_n 1, 1) := by decide +kernel
theorem dX7_move_152 : decode cX7_move 152 = .ok (.invokevirtual 66, 3) := by decide +kernel
theorem dX7_move_155 : decode cX7_move 155 = .ok (.return_, 1) := by decide +kernel
theorem dX7_scanWord_0 : decode cX7_scanWord 0 = .ok (.aload_n 0, 1) := by decide +kernel
theorem dX7_scanWord_1 : decode cX7_scanWord 1 = .ok (.lconst 0, 1) := by decide +kernel
theorem dX7_scanWord_2 : decode cX7_scanWord 2 = .ok (.putfield 70, 3) := by decide +kernel
theorem dX7_scanWord_5 : decode cX7_scanWord 5 = .ok (.aload_n 0, 1) := by decide +kernel
theorem dX7_scanWord_6 : decode cX7_scanWord 6 = .ok (.getfield 42, 3) := by decide +kernel
theorem dX7_scanWord_9 : decode cX7_scanWord 9 = .ok (.aload_n 0, 1) := by decide +kernel
theorem dX7_scanWord_10 : decode cX7_scanWord 10 = .ok (.getfield 39, 3) := by decide +kernel
theorem dX7_scanWord_13 : decode cX7_scanWord 13 = .ok (.if_icmp .ge 72, 3) := by decide +kernel
theorem dX7_scanWord_16 : decode cX7_scanWord 16 = .ok (.aload_n 0, 1) := by decide +kernel
theorem dX7_scanWord_17 : decode cX7_scanWord 17 = .ok (.getfield 15, 3) := by decide +kernel
theorem dX7_scanWord_20 : decode cX7_scanWord 20 = .ok (.aload_n 0, 1) := by decide +kernel
theorem dX7_scanWord_21 : decode cX7_scanWord 21 = .ok (.getfield 42, 3) := by decide +kernel
theorem dX7_scanWord_24 : decode cX7_scanWord 24 = .ok (.baload, 1) := by decide +kernel
theorem dX7_scanWord_25 : decode cX7_scanWord 25 = .ok (.bipush 97, 2) := by decide +kernel
theorem dX7_scanWord_27 : decode cX7_scanWord 27 = .ok (.if_icmp .lt 58, 3) := by decide +kernel
theorem dX7_scanWord_30 : decode cX7_scanWord 30 = .ok (.aload_n 0, 1) := by decide +kernel
theorem dX7_scanWord_31 : decode cX7_scanWord 31 = .ok (.getfield 15, 3) := by decide +kernel
theorem dX7_scanWord_34 : decode cX7_scanWord 34 = .ok (.aload_n 0, 1) := by decide +kernel
theorem dX7_scanWord_35 : decode cX7_scanWord 35 = .ok (.getfield 42, 3) := by decide +kernel
theorem dX7_scanWord_38 : decode cX7_scanWord 38 = .ok (.baload, 1) := by decide +kernel
theorem dX7_scanWord_39 : decode cX7_scanWord 39 = .ok (.bipush 122, 2) := by decide +kernel
theorem dX7_scanWord_41 : decode cX7_scanWord 41 = .ok (.if_icmp .gt 44, 3) := by decide +kernel
theorem dX7_scanWord_44 : decode cX7_scanWord 44 = .ok (.aload_n 0, 1) := by decide +kernel
theorem dX7_scanWord_45 : decode cX7_scanWord 45 = .ok (.aload_n 0, 1) := by decide +kernel
theorem dX7_scanWord_46 : decode cX7_scanWord 46 = .ok (.getfield 70, 3) := by decide +kernel
theorem dX7_scanWord_49 : decode cX7_scanWord 49 = .ok (.ldc2_w 31, 3) := by decide +kernel
theorem dX7_scanWord_52 : decode cX7_scanWord 52 = .ok (.lmul, 1) := by decide +kernel
theorem dX7_scanWord_53 : decode cX7_scanWord 53 = .ok (.aload_n 0, 1) := by decide +kernel
theorem dX7_scanWord_54 : decode cX7_scanWord 54 = .ok (.getfield 15, 3) := by decide +kernel
theorem dX7_scanWord_57 : decode cX7_scanWord 57 = .ok (.aload_n 0, 1) := by decide +kernel
theorem dX7_scanWord_58 : decode cX7_scanWord 58 = .ok (.getfield 42, 3) := by decide +kernel
theorem dX7_scanWord_61 : decode cX7_scanWord 61 = .ok (.baload, 1) := by decide +kernel
theorem dX7_scanWord_62 : decode cX7_scanWord 62 = .ok (.bipush 97, 2) := by decide +kernel
theorem dX7_scanWord_64 : decode cX7_scanWord 64 = .ok (.isub, 1) := by decide +kernel
theorem dX7_scanWord_65 : decode cX7_scanWord 65 = .ok (.iconst 1, 1) := by decide +kernel
theorem dX7_scanWord_66 : decode cX7_scanWord 66 = .ok (.iadd, 1) := by decide +kernel
theorem dX7_scanWord_67 : decode cX7_scanWord 67 = .ok (.i2l, 1) := by decide +kernel
theorem dX7_scanWord_68 : decode cX7_scanWord 68 = .ok (.ladd, 1) := by decide +kernel
theorem dX7_scanWord_69 : decode cX7_scanWord 69 = .ok (.putfield 70, 3) := by decide +kernel
theorem dX7_scanWord_72 : decode cX7_scanWord 72 = .ok (.aload_n 0, 1) := by decide +kernel
theorem dX7_scanWord_73 : decode cX7_scanWord 73 = .ok (.dup, 1) := by decide +kernel
theorem dX7_scanWord_74 : decode cX7_scanWord 74 = .ok (.getfield 42, 3) := by decide +kernel
theorem dX7_scanWord_77 : decode cX7_scanWord 77 = .ok (.iconst 1, 1) := by decide +kernel
theorem dX7_scanWord_78 : decode cX7_scanWord 78 = .ok (.iadd, 1) := by decide +kernel
theorem dX7_scanWord_79 : decode cX7_scanWord 79 = .ok (.putfield 42, 3) := by decide +kernel
theorem dX7_scanWord_82 : decode cX7_scanWord 82 = .ok (.goto (-77), 3) := by decide +kernel
theorem dX7_scanWord_85 : decode cX7_scanWord 85 = .ok (.aload_n 0, 1) := by decide +kernel
theorem dX7_scanWord_86 : decode cX7_scanWord 86 = .ok (.getfield 42, 3) := by decide +kernel
theorem dX7_scanWord_89 : decode cX7_scanWord 89 = .ok (.aload_n 0, 1) := by decide +kernel
theorem dX7_scanWord_90 : decode cX7_scanWord 90 = .ok (.getfield 54, 3) := by decide +kernel
theorem dX7_scanWord_93 : decode cX7_scanWord 93 = .ok (.isub, 1) := by decide +kernel
theorem dX7_scanWord_94 : decode cX7_scanWord 94 = .ok (.bipush 8, 2) := by decide +kernel
theorem dX7_scanWord_96 : decode cX7_scanWord 96 = .ok (.if_icmp .le 9, 3) := by decide +kernel
theorem dX7_scanWord_99 : decode cX7_scanWord 99 = .ok (.aload_n 0, 1) := by decide +kernel
theorem dX7_scanWord_100 : decode cX7_scanWord 100 = .ok (.iconst 4, 1) := by decide +kernel
theorem dX7_scanWord_101 : decode cX7_scanWord 101 = .ok (.putfield 57, 3) := by decide +kernel
theorem dX7_scanWord_104 : decode cX7_scanWord 104 = .ok (.return_, 1) := by decide +kernel
theorem dX7_scanWord_105 : decode cX7_scanWord 105 = .ok (.aload_n 0, 1) := by decide +kernel
theorem dX7_scanWord_106 : decode cX7_scanWord 106 = .ok (.iconst 3, 1) := by decide +kernel
theorem dX7_scanWord_107 : decode cX7_scanWord 107 = .ok (.putfield 57, 3) := by decide +kernel
theorem dX7_scanWord_110 : decode cX7_scanWord 110 = .ok (.iconst 0, 1) := by decide +kernel
theorem dX7_scanWord_111 : decode cX7_scanWord 111 = .ok (.istore_n 1, 1) := by decide +kernel
theorem dX7_scanWord_112 : decode cX7_scanWord 112 = .ok (.iload_n 1, 1) := by decide +kernel
theorem dX7_scanWord_113 : decode cX7_scanWord 113 = .ok (.bipush 23, 2) := by decide +kernel
theorem dX7_scanWord_115 : decode cX7_scanWord 115 = .ok (.if_icmp .ge 33, 3) := by decide +kernel
theorem dX7_scanWord_118 : decode cX7_scanWord 118 = .ok (.aload_n 0, 1) := by decide +kernel
theorem dX7_scanWord_119 : decode cX7_scanWord 119 = .ok (.getfield 9, 3) := by decide +kernel
theorem dX7_scanWord_122 : decode cX7_scanWord 122 = .ok (.iload_n 1, 1) := by decide +kernel
theorem dX7_scanWord_123 : decode cX7_scanWord 123 = .ok (.laload, 1) := by decide +kernel
theorem dX7_scanWord_124 : decode cX7_scanWord 124 = .ok (.aload_n 0, 1) := by decide +kernel
theorem dX7_scanWord_125 : decode cX7_scanWord 125 = .ok (.getfield 70, 3) := by decide +kernel
theorem dX7_scanWord_128 : decode cX7_scanWord 128 = .ok (.lcmp, 1) := by decide +kernel
theorem dX7_scanWord_129 : decode cX7_scanWord 129 = .ok (.ifCond .ne 13, 3) := by decide +kernel
theorem dX7_scanWord_132 : decode cX7_scanWord 132 = .ok (.aload_n 0, 1) := by decide +kernel
theorem dX7_scanWord_133 : decode cX7_scanWord 133 = .ok (.iconst 2, 1) := by decide +kernel
theorem dX7_scanWord_134 : decode cX7_scanWord 134 = .ok (.putfield 57, 3) := by decide +kernel
theorem dX7_scanWord_137 : decode cX7_scanWord 137 = .ok (.aload_n 0, 1) := by decide +kernel
theorem dX7_scanWord_138 : decode cX7_scanWord 138 = .ok (.iload_n 1, 1) := by decide +kernel
theorem dX7_scanWord_139 : decode cX7_scanWord 139 = .ok (.putfield 74, 3) := by decide +kernel
theorem dX7_scanWord_142 : decode cX7_scanWord 142 = .ok (.iinc 1 1, 3) := by decide +kernel
theorem dX7_scanWord_145 : decode cX7_scanWord 145 = .ok (.goto (-33), 3) := by decide +kernel
theorem dX7_scanWord_148 : decode cX7_scanWord 148 = .ok (.return_, 1) := by decide +kernel
theorem dX7_scanNumber_0 : decode cX7_scanNumber 0 = .ok (.aload_n 0, 1) := by decide +kernel
theorem dX7_scanNumber_1 : decode cX7_scanNumber 1 = .ok (.iconst 0, 1) := by decide +kernel
theorem dX7_scanNumber_2 : decode cX7_scanNumber 2 = .ok (.putfield 77, 3) := by decide +kernel
theorem dX7_scanNumber_5 : decode cX7_scanNumber 5 = .ok (.aload_n 0, 1) := by decide +kernel
theorem dX7_scanNumber_6 : decode cX7_scanNumber 6 = .ok (.getfield 42, 3) := by decide +kernel
theorem dX7_scanNumber_9 : decode cX7_scanNumber 9 = .ok (.aload_n 0, 1) := by decide +kernel
theorem dX7_scanNumber_10 : decode cX7_scanNumber 10 = .ok (.getfield 39, 3) := by decide +kernel
theorem dX7_scanNumber_13 : decode cX7_scanNumber 13 = .ok (.if_icmp .ge 68, 3) := by decide +kernel
theorem dX7_scanNumber_16 : decode cX7_scanNumber 16 = .ok (.aload_n 0, 1) := by decide +kernel
theorem dX7_scanNumber_17 : decode cX7_scanNumber 17 = .ok (.getfield 15, 3) := by decide +kernel
theorem dX7_scanNumber_20 : decode cX7_scanNumber 20 = .ok (.aload_n 0, 1) := by decide +kernel
theorem dX7_scanNumber_21 : decode cX7_scanNumber 21 = .ok (.getfield 42, 3) := by decide +kernel
theorem dX7_scanNumber_24 : decode cX7_scanNumber 24 = .ok (.baload, 1) := by decide +kernel
theorem dX7_scanNumber_25 : decode cX7_scanNumber 25 = .ok (.bipush 48, 2) := by decide +kernel
theorem dX7_scanNumber_27 : decode cX7_scanNumber 27 = .ok (.if_icmp .lt 54, 3) := by decide +kernel
theorem dX7_scanNumber_30 : decode cX7_scanNumber 30 = .ok (.aload_n 0, 1) := by decide +kernel
theorem dX7_scanNumber_31 : decode cX7_scanNumber 31 = .ok (.getfield 15, 3) := by decide +kernel
theorem dX7_scanNumber_34 : decode cX7_scanNumber 34 = .ok (.aload_n 0, 1) := by decide +kernel
theorem dX7_scanNumber_35 : decode cX7_scanNumber 35 = .ok (.getfield 42, 3) := by decide +kernel
theorem dX7_scanNumber_38 : decode cX7_scanNumber 38 = .ok (.baload, 1) := by decide +kernel
theorem dX7_scanNumber_39 : decode cX7_scanNumber 39 = .ok (.bipush 57, 2) := by decide +kernel
theorem dX7_scanNumber_41 : decode cX7_scanNumber 41 = .ok (.if_icmp .gt 40, 3) := by decide +kernel
theorem dX7_scanNumber_44 : decode cX7_scanNumber 44 = .ok (.aload_n 0, 1) := by decide +kernel
theorem dX7_scanNumber_45 : decode cX7_scanNumber 45 = .ok (.aload_n 0, 1) := by decide +kernel
theorem dX7_scanNumber_46 : decode cX7_scanNumber 46 = .ok (.getfield 77, 3) := by decide +kernel
theorem dX7_scanNumber_49 : decode cX7_scanNumber 49 = .ok (.bipush 10, 2) := by decide +kernel
theorem dX7_scanNumber_51 : decode cX7_scanNumber 51 = .ok (.imul, 1) := by decide +kernel
theorem dX7_scanNumber_52 : decode cX7_scanNumber 52 = .ok (.aload_n 0, 1) := by decide +kernel
theorem dX7_scanNumber_53 : decode cX7_scanNumber 53 = .ok (.getfield 15, 3) := by decide +kernel
theorem dX7_scanNumber_56 : decode cX7_scanNumber 56 = .ok (.aload_n 0, 1) := by decide +kernel
theorem dX7_scanNumber_57 : decode cX7_scanNumber 57 = .ok (.getfield 42, 3) := by decide +kernel
theorem dX7_scanNumber_60 : decode cX7_scanNumber 60 = .ok (.baload, 1) := by decide +kernel
theorem dX7_scanNumber_61 : decode cX7_scanNumber 61 = .ok (.iadd, 1) := by decide +kernel
theorem dX7_scanNumber_62 : decode cX7_scanNumber 62 = .ok (.bipush 48, 2) := by decide +kernel
theorem dX7_scanNumber_64 : decode cX7_scanNumber 64 = .ok (.isub, 1) := by decide +kernel
theorem dX7_scanNumber_65 : decode cX7_scanNumber 65 = .ok (.putfield 77, 3) := by decide +kernel
theorem dX7_scanNumber_68 : decode cX7_scanNumber 68 = .ok (.aload_n 0, 1) := by decide +kernel
theorem dX7_scanNumber_69 : decode cX7_scanNumber 69 = .ok (.dup, 1) := by decide +kernel
theorem dX7_scanNumber_70 : decode cX7_scanNumber 70 = .ok (.getfield 42, 3) := by decide +kernel
theorem dX7_scanNumber_73 : decode cX7_scanNumber 73 = .ok (.iconst 1, 1) := by decide +kernel
theorem dX7_scanNumber_74 : decode cX7_scanNumber 74 = .ok (.iadd, 1) := by decide +kernel
theorem dX7_scanNumber_75 : decode cX7_scanNumber 75 = .ok (.putfield 42, 3) := by decide +kernel
theorem dX7_scanNumber_78 : decode cX7_scanNumber 78 = .ok (.goto (-73), 3) := by decide +kernel
theorem dX7_scanNumber_81 : decode cX7_scanNumber 81 = .ok (.aload_n 0, 1) := by decide +kernel
theorem dX7_scanNumber_82 : decode cX7_scanNumber 82 = .ok (.aload_n 0, 1) := by decide +kernel
theorem dX7_scanNumber_83 : decode cX7_scanNumber 83 = .ok (.getfield 42, 3) := by decide +kernel
theorem dX7_scanNumber_86 : decode cX7_scanNumber 86 = .ok (.aload_n 0, 1) := by decide +kernel
theorem dX7_scanNumber_87 : decode cX7_scanNumber 87 = .ok (.getfield 54, 3) := by decide +kernel
theorem dX7_scanNumber_90 : decode cX7_scanNumber 90 = .ok (.isub, 1) := by decide +kernel
theorem dX7_scanNumber_91 : decode cX7_scanNumber 91 = .ok (.iconst 4, 1) := by decide +kernel
theorem dX7_scanNumber_92 : decode cX7_scanNumber 92 = .ok (.if_icmp .le 7, 3) := by decide +kernel
theorem dX7_scanNumber_95 : decode cX7_scanNumber 95 = .ok (.iconst 1, 1) := by decide +kernel
theorem dX7_scanNumber_96 : decode cX7_scanNumber 96 = .ok (.goto 4, 3) := by decide +kernel
theorem dX7_scanNumber_99 : decode cX7_scanNumber 99 = .ok (.iconst 5, 1) := by decide +kernel
theorem dX7_scanNumber_100 : decode cX7_scanNumber 100 = .ok (.putfield 57, 3) := by decide +kernel
theorem dX7_scanNumber_103 : decode cX7_scanNumber 103 = .ok (.return_, 1) := by decide +kernel
theorem dX7_scanSign_0 : decode cX7_scanSign 0 = .ok (.aload_n 0, 1) := by decide +kernel
theorem dX7_scanSign_1 : decode cX7_scanSign 1 = .ok (.iload_n 1, 1) := by decide +kernel
theorem dX7_scanSign_2 : decode cX7_scanSign 2 = .ok (.putfield 77, 3) := by decide +kernel
theorem dX7_scanSign_5 : decode cX7_scanSign 5 = .ok (.iload_n 1, 1) := by decide +kernel
theorem dX7_scanSign_6 : decode cX7_scanSign 6 = .ok (.bipush 59, 2) := by decide +kernel
theorem dX7_scanSign_8 : decode cX7_scanSign 8 = .ok (.if_icmp .eq 21, 3) := by decide +kernel
theorem dX7_scanSign_11 : decode cX7_scanSign 11 = .ok (.iload_n 1, 1) := by decide +kernel
theorem dX7_scanSign_12 : decode cX7_scanSign 12 = .ok (.bipush 60, 2) := by decide +kernel
theorem dX7_scanSign_14 : decode cX7_scanSign 14 = .ok (.if_icmp .eq 15, 3) := by decide +kernel
theorem dX7_scanSign_17 : decode cX7_scanSign 17 = .ok (.iload_n 1, 1) := by decide +kernel
theorem dX7_scanSign_18 : decode cX7_scanSign 18 = .ok (.bipush 62, 2) := by decide +kernel
theorem dX7_scanSign_20 : decode cX7_scanSign 20 = .ok (.if_icmp .eq 9, 3) := by decide +kernel
theorem dX7_scanSign_23 : decode cX7_scanSign 23 = .ok (.iload_n 1, 1) := by decide +kernel
theorem dX7_scanSign_24 : decode cX7_scanSign 24 = .ok (.bipush 61, 2) := by decide +kernel
theorem dX7_scanSign_26 : decode cX7_scanSign 26 = .ok (.if_icmp .ne 7, 3) := by decide +kernel
theorem dX7_scanSign_29 : decode cX7_scanSign 29 = .ok (.iconst 1, 1) := by decide +kernel
theorem dX7_scanSign_30 : decode cX7_scanSign 30 = .ok (.goto 4, 3) := by decide +kernel
theorem dX7_scanSign_33 : decode cX7_scanSign 33 = .ok (.iconst 0, 1) := by decide +kernel
theorem dX7_scanSign_34 : decode cX7_scanSign 34 = .ok (.istore_n 2, 1) := by decide +kernel
theorem dX7_scanSign_35 : decode cX7_scanSign 35 = .ok (.aload_n 0, 1) := by decide +kernel
theorem dX7_scanSign_36 : decode cX7_scanSign 36 = .ok (.iload_n 2, 1) := by decide +kernel
theorem dX7_scanSign_37 : decode cX7_scanSign 37 = .ok (.ifCond .eq 8, 3) := by decide +kernel
theorem dX7_scanSign_40 : decode cX7_scanSign 40 = .ok (.bipush 6, 2) := by decide +kernel
theorem dX7_scanSign_42 : decode cX7_scanSign 42 = .ok (.goto 4, 3) := by decide +kernel
theorem dX7_scanSign_45 : decode cX7_scanSign 45 = .ok (.iconst 1, 1) := by decide +kernel
theorem dX7_scanSign_46 : decode cX7_scanSign 46 = .ok (.putfield 57, 3) := by decide +kernel
theorem dX7_scanSign_49 : decode cX7_scanSign 49 = .ok (.aload_n 0, 1) := by decide +kernel
theorem dX7_scanSign_50 : decode cX7_scanSign 50 = .ok (.aload_n 0, 1) := by decide +kernel
theorem dX7_scanSign_51 : decode cX7_scanSign 51 = .ok (.getfield 54, 3) := by decide +kernel
theorem dX7_scanSign_54 : decode cX7_scanSign 54 = .ok (.iconst 1, 1) := by decide +kernel
theorem dX7_scanSign_55 : decode cX7_scanSign 55 = .ok (.iadd, 1) := by decide +kernel
theorem dX7_scanSign_56 : decode cX7_scanSign 56 = .ok (.putfield 42, 3) := by decide +kernel
theorem dX7_scanSign_59 : decode cX7_scanSign 59 = .ok (.return_, 1) := by decide +kernel
theorem dX7_isOver_0 : decode cX7_isOver 0 = .ok (.aload_n 0, 1) := by decide +kernel
theorem dX7_isOver_1 : decode cX7_isOver 1 = .ok (.getfield 57, 3) := by decide +kernel
theorem dX7_isOver_4 : decode cX7_isOver 4 = .ok (.ifCond .ne 7, 3) := by decide +kernel
theorem dX7_isOver_7 : decode cX7_isOver 7 = .ok (.iconst 1, 1) := by decide +kernel
theorem dX7_isOver_8 : decode cX7_isOver 8 = .ok (.goto 4, 3) := by decide +kernel
theorem dX7_isOver_11 : decode cX7_isOver 11 = .ok (.iconst 0, 1) := by decide +kernel
theorem dX7_isOver_12 : decode cX7_isOver 12 = .ok (.ireturn, 1) := by decide +kernel
theorem dX7_isName_0 : decode cX7_isName 0 = .ok (.aload_n 0, 1) := by decide +kernel
theorem dX7_isName_1 : decode cX7_isName 1 = .ok (.getfield 57, 3) := by decide +kernel
theorem dX7_isName_4 : decode cX7_isName 4 = .ok (.iconst 3, 1) := by decide +kernel
theorem dX7_isName_5 : decode cX7_isName 5 = .ok (.if_icmp .ne 7, 3) := by decide +kernel
theorem dX7_isName_8 : decode cX7_isName 8 = .ok (.iconst 1, 1) := by decide +kernel
theorem dX7_isName_9 : decode cX7_isName 9 = .ok (.goto 4, 3) := by decide +kernel
theorem dX7_isName_12 : decode cX7_isName 12 = .ok (.iconst 0, 1) := by decide +kernel
theorem dX7_isName_13 : decode cX7_isName 13 = .ok (.ireturn, 1) := by decide +kernel
theorem dX7_isAt_0 : decode cX7_isAt 0 = .ok (.aload_n 0, 1) := by decide +kernel
theorem dX7_isAt_1 : decode cX7_isAt 1 = .ok (.getfield 57, 3) := by decide +kernel
theorem dX7_isAt_4 : decode cX7_isAt 4 = .ok (.iconst 2, 1) := by decide +kernel
theorem dX7_isAt_5 : decode cX7_isAt 5 = .ok (.if_icmp .ne 15, 3) := by decide +kernel
theorem dX7_isAt_8 : decode cX7_isAt 8 = .ok (.aload_n 0, 1) := by decide +kernel
theorem dX7_isAt_9 : decode cX7_isAt 9 = .ok (.getfield 74, 3) := by decide +kernel
theorem dX7_isAt_12 : decode cX7_isAt 12 = .ok (.iload_n 1, 1) := by decide +kernel
theorem dX7_isAt_13 : decode cX7_isAt 13 = .ok (.if_icmp .ne 7, 3) := by decide +kernel
theorem dX7_isAt_16 : decode cX7_isAt 16 = .ok (.iconst 1, 1) := by decide +kernel
theorem dX7_isAt_17 : decode cX7_isAt 17 = .ok (.goto 4, 3) := by decide +kernel
theorem dX7_isAt_20 : decode cX7_isAt 20 = .ok (.iconst 0, 1) := by decide +kernel
theorem dX7_isAt_21 : decode cX7_isAt 21 = .ok (.ireturn, 1) := by decide +kernel
theorem dX7_keywordHere_0 : decode cX7_keywordHere 0 = .ok (.aload_n 0, 1) := by decide +kernel
theorem dX7_keywordHere_1 : decode cX7_keywordHere 1 = .ok (.getfield 57, 3) := by decide +kernel
theorem dX7_keywordHere_4 : decode cX7_keywordHere 4 = .ok (.iconst 2, 1) := by decide +kernel
theorem dX7_keywordHere_5 : decode cX7_keywordHere 5 = .ok (.if_icmp .ne 10, 3) := by decide +kernel
theorem dX7_keywordHere_8 : decode cX7_keywordHere 8 = .ok (.aload_n 0, 1) := by decide +kernel
theorem dX7_keywordHere_9 : decode cX7_keywordHere 9 = .ok (.getfield 74, 3) := by decide +kernel
theorem dX7_keywordHere_12 : decode cX7_keywordHere 12 = .ok (.goto 4, 3) := by decide +kernel
theorem dX7_keywordHere_15 : decode cX7_keywordHere 15 = .ok (.iconst (-1), 1) := by decide +kernel
theorem dX7_keywordHere_16 : decode cX7_keywordHere 16 = .ok (.ireturn, 1) := by decide +kernel
theorem dX7_fail_0 : decode cX7_fail 0 = .ok (.aload_n 0, 1) := by decide +kernel
theorem dX7_fail_1 : decode cX7_fail 1 = .ok (.aload_n 0, 1) := by decide +kernel
theorem dX7_fail_2 : decode cX7_fail 2 = .ok (.getfield 57, 3) := by decide +kernel
theorem dX7_fail_5 : decode cX7_fail 5 = .ok (.iconst 1, 1) := by decide +kernel
theorem dX7_fail_6 : decode cX7_fail 6 = .ok (.if_icmp .ne 7, 3) := by decide +kernel
theorem dX7_fail_9 : decode cX7_fail 9 = .ok (.iconst 1, 1) := by decide +kernel
theorem dX7_fail_10 : decode cX7_fail 10 = .ok (.goto 4, 3) := by decide +kernel
theorem dX7_fail_13 : decode cX7_fail 13 = .ok (.iload_n 1, 1) := by decide +kernel
theorem dX7_fail_14 : decode cX7_fail 14 = .ok (.putfield 45, 3) := by decide +kernel
theorem dX7_fail_17 : decode cX7_fail 17 = .ok (.aload_n 0, 1) := by decide +kernel
theorem dX7_fail_18 : decode cX7_fail 18 = .ok (.aload_n 0, 1) := by decide +kernel
theorem dX7_fail_19 : decode cX7_fail 19 = .ok (.getfield 54, 3) := by decide +kernel
theorem dX7_fail_22 : decode cX7_fail 22 = .ok (.putfield 48, 3) := by decide +kernel
theorem dX7_fail_25 : decode cX7_fail 25 = .ok (.iconst 0, 1) := by decide +kernel
theorem dX7_fail_26 : decode cX7_fail 26 = .ok (.ireturn, 1) := by decide +kernel
theorem dX7_takeKeyword_0 : decode cX7_takeKeyword 0 = .ok (.aload_n 0, 1) := by decide +kernel
theorem dX7_takeKeyword_1 : decode cX7_takeKeyword 1 = .ok (.iload_n 1, 1) := by decide +kernel
theorem dX7_takeKeyword_2 : decode cX7_takeKeyword 2 = .ok (.invokevirtual 80, 3) := by decide +kernel
theorem dX7_takeKeyword_5 : decode cX7_takeKeyword 5 = .ok (.ifCond .ne 9, 3) := by decide +kernel
theorem dX7_takeKeyword_8 : decode cX7_takeKeyword 8 = .ok (.aload_n 0, 1) := by decide +kernel
theorem dX7_takeKeyword_9 : decode cX7_takeKeyword 9 = .ok (.iconst 2, 1) := by decide +kernel
theorem dX7_takeKeyword_10 : decode cX7_takeKeyword 10 = .ok (.invokevirtual 84, 3) := by decide +kernel
theorem dX7_takeKeyword_13 : decode cX7_takeKeyword 13 = .ok (.ireturn, 1) := by decide +kernel
theorem dX7_takeKeyword_14 : decode cX7_takeKeyword 14 = .ok (.aload_n 0, 1) := by decide +kernel
theorem dX7_takeKeyword_15 : decode cX7_takeKeyword 15 = .ok (.invokevirtual 51, 3) := by decide +kernel
theorem dX7_takeKeyword_18 : decode cX7_takeKeyword 18 = .ok (.iconst 1, 1) := by decide +kernel
theorem dX7_takeKeyword_19 : decode cX7_takeKeyword 19 = .ok (.ireturn, 1) := by decide +kernel
theorem dX7_takeSemicolon_0 : decode cX7_takeSemicolon 0 = .ok (.aload_n 0, 1) := by decide +kernel
theorem dX7_takeSemicolon_1 : decode cX7_takeSemicolon 1 = .ok (.getfield 57, 3) := by decide +kernel
theorem dX7_takeSemicolon_4 : decode cX7_takeSemicolon 4 = .ok (.bipush 6, 2) := by decide +kernel
theorem dX7_takeSemicolon_6 : decode cX7_takeSemicolon 6 = .ok (.if_icmp .ne 12, 3) := by decide +kernel
theorem dX7_takeSemicolon_9 : decode cX7_takeSemicolon 9 = .ok (.aload_n 0, 1) := by decide +kernel
theorem dX7_takeSemicolon_10 : decode cX7_takeSemicolon 10 = .ok (.getfield 77, 3) := by decide +kernel
theorem dX7_takeSemicolon_13 : decode cX7_takeSemicolon 13 = .ok (.bipush 59, 2) := by decide +kernel
theorem dX7_takeSemicolon_15 : decode cX7_takeSemicolon 15 = .ok (.if_icmp .eq 9, 3) := by decide +kernel
theorem dX7_takeSemicolon_18 : decode cX7_takeSemicolon 18 = .ok (.aload_n 0, 1) := by decide +kernel
theorem dX7_takeSemicolon_19 : decode cX7_takeSemicolon 19 = .ok (.iconst 2, 1) := by decide +kernel
theorem dX7_takeSemicolon_20 : decode cX7_takeSemicolon 20 = .ok (.invokevirtual 84, 3) := by decide +kernel
theorem dX7_takeSemicolon_23 : decode cX7_takeSemicolon 23 = .ok (.ireturn, 1) := by decide +kernel
theorem dX7_takeSemicolon_24 : decode cX7_takeSemicolon 24 = .ok (.aload_n 0, 1) := by decide +kernel
theorem dX7_takeSemicolon_25 : decode cX7_takeSemicolon 25 = .ok (.invokevirtual 51, 3) := by decide +kernel
theorem dX7_takeSemicolon_28 : decode cX7_takeSemicolon 28 = .ok (.iconst 1, 1) := by decide +kernel
theorem dX7_takeSemicolon_29 : decode cX7_takeSemicolon 29 = .ok (.ireturn, 1) := by decide +kernel
theorem dX7_takeComparing_0 : decode cX7_takeComparing 0 = .ok (.aload_n 0, 1) := by decide +kernel
theorem dX7_takeComparing_1 : decode cX7_takeComparing 1 = .ok (.getfield 57, 3) := by decide +kernel
theorem dX7_takeComparing_4 : decode cX7_takeComparing 4 = .ok (.bipush 6, 2) := by decide +kernel
theorem dX7_takeComparing_6 : decode cX7_takeComparing 6 = .ok (.if_icmp .ne 12, 3) := by decide +kernel
theorem dX7_takeComparing_9 : decode cX7_takeComparing 9 = .ok (.aload_n 0, 1) := by decide +kernel
theorem dX7_takeComparing_10 : decode cX7_takeComparing 10 = .ok (.getfield 77, 3) := by decide +kernel
theorem dX7_takeComparing_13 : decode cX7_takeComparing 13 = .ok (.bipush 59, 2) := by decide +kernel
theorem dX7_takeComparing_15 : decode cX7_takeComparing 15 = .ok (.if_icmp .ne 9, 3) := by decide +kernel
theorem dX7_takeComparing_18 : decode cX7_takeComparing 18 = .ok (.aload_n 0, 1) := by decide +kernel
theorem dX7_takeComparing_19 : decode cX7_takeComparing 19 = .ok (.iconst 2, 1) := by decide +kernel
theorem dX7_takeComparing_20 : decode cX7_takeComparing 20 = .ok (.invokevirtual 84, 3) := by decide +kernel
theorem dX7_takeComparing_23 : decode cX7_takeComparing 23 = .ok (.ireturn, 1) := by decide +kernel
theorem dX7_takeComparing_24 : decode cX7_takeComparing 24 = .ok (.aload_n 0, 1) := by decide +kernel
theorem dX7_takeComparing_25 : decode cX7_takeComparing 25 = .ok (.aload_n 0, 1) := by decide +kernel
theorem dX7_takeComparing_26 : decode cX7_takeComparing 26 = .ok (.getfield 77, 3) := by decide +kernel
theorem dX7_takeComparing_29 : decode cX7_takeComparing 29 = .ok (.putfield 87, 3) := by decide +kernel
theorem dX7_takeComparing_32 : decode cX7_takeComparing 32 = .ok (.aload_n 0, 1) := by decide +kernel
theorem dX7_takeComparing_33 : decode cX7_takeComparing 33 = .ok (.invokevirtual 51, 3) := by decide +kernel
theorem dX7_takeComparing_36 : decode cX7_takeComparing 36 = .ok (.iconst 1, 1) := by decide +kernel
theorem dX7_takeComparing_37 : decode cX7_takeComparing 37 = .ok (.ireturn, 1) := by decide +kernel
theorem dX7_takeNumber_0 : decode cX7_takeNumber 0 = .ok (.aload_n 0, 1) := by decide +kernel
theorem dX7_takeNumber_1 : decode cX7_takeNumber 1 = .ok (.getfield 57, 3) := by decide +kernel
theorem dX7_takeNumber_4 : decode cX7_takeNumber 4 = .ok (.iconst 5, 1) := by decide +kernel
theorem dX7_takeNumber_5 : decode cX7_takeNumber 5 = .ok (.if_icmp .eq 9, 3) := by decide +kernel
theorem dX7_takeNumber_8 : decode cX7_takeNumber 8 = .ok (.aload_n 0, 1) := by decide +kernel
theorem dX7_takeNumber_9 : decode cX7_takeNumber 9 = .ok (.iconst 2, 1) := by decide +kernel
theorem dX7_takeNumber_10 : decode cX7_takeNumber 10 = .ok (.invokevirtual 84, 3) := by decide +kernel
theorem dX7_takeNumber_13 : decode cX7_takeNumber 13 = .ok (.ireturn, 1) := by decide +kernel
theorem dX7_takeNumber_14 : decode cX7_takeNumber 14 = .ok (.aload_n 0, 1) := by decide +kernel
theorem dX7_takeNumber_15 : decode cX7_takeNumber 15 = .ok (.getfield 77, 3) := by decide +kernel
theorem dX7_takeNumber_18 : decode cX7_takeNumber 18 = .ok (.iload_n 1, 1) := by decide +kernel
theorem dX7_takeNumber_19 : decode cX7_takeNumber 19 = .ok (.if_icmp .lt 11, 3) := by decide +kernel
theorem dX7_takeNumber_22 : decode cX7_takeNumber 22 = .ok (.aload_n 0, 1) := by decide +kernel
theorem dX7_takeNumber_23 : decode cX7_takeNumber 23 = .ok (.getfield 77, 3) := by decide +kernel
theorem dX7_takeNumber_26 : decode cX7_takeNumber 26 = .ok (.iload_n 2, 1) := by decide +kernel
theorem dX7_takeNumber_27 : decode cX7_takeNumber 27 = .ok (.if_icmp .le 9, 3) := by decide +kernel
theorem dX7_takeNumber_30 : decode cX7_takeNumber 30 = .ok (.aload_n 0, 1) := by decide +kernel
theorem dX7_takeNumber_31 : decode cX7_takeNumber 31 = .ok (.iconst 4, 1) := by decide +kernel
theorem dX7_takeNumber_32 : decode cX7_takeNumber 32 = .ok (.invokevirtual 84, 3) := by decide +kernel
theorem dX7_takeNumber_35 : decode cX7_takeNumber 35 = .ok (.ireturn, 1) := by decide +kernel
theorem dX7_takeNumber_36 : decode cX7_takeNumber 36 = .ok (.aload_n 0, 1) := by decide +kernel
theorem dX7_takeNumber_37 : decode cX7_takeNumber 37 = .ok (.aload_n 0, 1) := by decide +kernel
theorem dX7_takeNumber_38 : decode cX7_takeNumber 38 = .ok (.getfield 77, 3) := by decide +kernel
theorem dX7_takeNumber_41 : decode cX7_takeNumber 41 = .ok (.putfield 90, 3) := by decide +kernel
theorem dX7_takeNumber_44 : decode cX7_takeNumber 44 = .ok (.aload_n 0, 1) := by decide +kernel
theorem dX7_takeNumber_45 : decode cX7_takeNumber 45 = .ok (.invokevirtual 51, 3) := by decide +kernel
theorem dX7_takeNumber_48 : decode cX7_takeNumber 48 = .ok (.iconst 1, 1) := by decide +kernel
theorem dX7_takeNumber_49 : decode cX7_takeNumber 49 = .ok (.ireturn, 1) := by decide +kernel
theorem dX7_takeNumberBehind_0 : decode cX7_takeNumberBehind 0 = .ok (.aload_n 0, 1) := by decide +kernel
theorem dX7_takeNumberBehind_1 : decode cX7_takeNumberBehind 1 = .ok (.iload_n 1, 1) := by decide +kernel
theorem dX7_takeNumberBehind_2 : decode cX7_takeNumberBehind 2 = .ok (.invokevirtual 80, 3) := by decide +kernel
theorem dX7_takeNumberBehind_5 : decode cX7_takeNumberBehind 5 = .ok (.ifCond .eq 14, 3) := by decide +kernel
theorem dX7_takeNumberBehind_8 : decode cX7_takeNumberBehind 8 = .ok (.aload_n 0, 1) := by decide +kernel
theorem dX7_takeNumberBehind_9 : decode cX7_takeNumberBehind 9 = .ok (.invokevirtual 51, 3) := by decide +kernel
theorem dX7_takeNumberBehind_12 : decode cX7_takeNumberBehind 12 = .ok (.aload_n 0, 1) := by decide +kernel
theorem dX7_takeNumberBehind_13 : decode cX7_takeNumberBehind 13 = .ok (.iload_n 2, 1) := by decide +kernel
theorem dX7_takeNumberBehind_14 : decode cX7_takeNumberBehind 14 = .ok (.iload_n 3, 1) := by decide +kernel
theorem dX7_takeNumberBehind_15 : decode cX7_takeNumberBehind 15 = .ok (.invokevirtual 93, 3) := by decide +kernel
theorem dX7_takeNumberBehind_18 : decode cX7_takeNumberBehind 18 = .ok (.ireturn, 1) := by decide +kernel
theorem dX7_takeNumberBehind_19 : decode cX7_takeNumberBehind 19 = .ok (.aload_n 0, 1) := by decide +kernel
theorem dX7_takeNumberBehind_20 : decode cX7_takeNumberBehind 20 = .ok (.iload 4, 2) := by decide +kernel
theorem dX7_takeNumberBehind_22 : decode cX7_takeNumberBehind 22 = .ok (.putfield 90, 3) := by decide +kernel
theorem dX7_takeNumberBehind_25 : decode cX7_takeNumberBehind 25 = .ok (.iconst 1, 1) := by decide +kernel
theorem dX7_takeNumberBehind_26 : decode cX7_takeNumberBehind 26 = .ok (.ireturn, 1) := by decide +kernel
theorem dX8_init_0 : decode cX8_init 0 = .ok (.aload_n 0, 1) := by decide +kernel
theorem dX8_init_1 : decode cX8_init 1 = .ok (.invokespecial 3, 3) := by decide +kernel
theorem dX8_init_4 : decode cX8_init 4 = .ok (.aload_n 0, 1) := by decide +kernel
theorem dX8_init_5 : decode cX8_init 5 = .ok (.bipush 60, 2) := by decide +kernel
theorem dX8_init_7 : decode cX8_init 7 = .ok (.newarray .long, 2) := by decide +kernel
theorem dX8_init_9 : decode cX8_init 9 = .ok (.putfield 9, 3) := by decide +kernel
theorem dX8_init_12 : decode cX8_init 12 = .ok (.return_, 1) := by decide +kernel
theorem dX8_lay_0 : decode cX8_lay 0 = .ok (.aload_n 0, 1) := by decide +kernel
theorem dX8_lay_1 : decode cX8_lay 1 = .ok (.iconst 1, 1) := by decide +kernel
theorem dX8_lay_2 : decode cX8_lay 2 = .ok (.putfield 15, 3) := by decide +kernel
theorem dX8_lay_5 : decode cX8_lay 5 = .ok (.aload_n 0, 1) := by decide +kernel
theorem dX8_lay_6 : decode cX8_lay 6 = .ok (.iload_n 1, 1) := by decide +kernel
theorem dX8_lay_7 : decode cX8_lay 7 = .ok (.putfield 19, 3) := by decide +kernel
theorem dX8_lay_10 : decode cX8_lay 10 = .ok (.aload_n 0, 1) := by decide +kernel
theorem dX8_lay_11 : decode cX8_lay 11 = .ok (.iload_n 2, 1) := by decide +kernel
theorem dX8_lay_12 : decode cX8_lay 12 = .ok (.putfield 23, 3) := by decide +kernel
theorem dX8_lay_15 : decode cX8_lay 15 = .ok (.aload_n 0, 1) := by decide +kernel
theorem dX8_lay_16 : decode cX8_lay 16 = .ok (.getfield 9, 3) := by decide +kernel
theorem dX8_lay_19 : decode cX8_lay 19 = .ok (.lconst 0, 1) := by decide +kernel
theorem dX8_lay_20 : decode cX8_lay 20 = .ok (.invokestatic 26, 3) := by decide +kernel
theorem dX8_lay_23 : decode cX8_lay 23 = .ok (.return_, 1) := by decide +kernel
theorem dX8_spans_0 : decode cX8_spans 0 = .ok (.iload_n 1, 1) := by decide +kernel
theorem dX8_spans_1 : decode cX8_spans 1 = .ok (.ifCond .lt 21, 3) := by decide +kernel
theorem dX8_spans_4 : decode cX8_spans 4 = .ok (.iload_n 2, 1) := by decide +kernel
theorem dX8_spans_5 : decode cX8_spans 5 = .ok (.ifCond .lt 17, 3) := by decide +kernel
theorem dX8_spans_8 : decode cX8_spans 8 = .ok (.iload_n 1, 1) := by decide +kernel
theorem dX8_spans_9 : decode cX8_spans 9 = .ok (.aload_n 0, 1) := by decide +kernel
theorem dX8_spans_10 : decode cX8_spans 10 = .ok (.getfield 23, 3) := by decide +kernel
theorem dX8_spans_13 : decode cX8_spans 13 = .ok (.iload_n 2, 1) := by decide +kernel
theorem dX8_spans_14 : decode cX8_spans 14 = .ok (.isub, 1) := by decide +kernel
theorem dX8_spans_15 : decode cX8_spans 15 = .ok (.if_icmp .gt 7, 3) := by decide +kernel
theorem dX8_spans_18 : decode cX8_spans 18 = .ok (.iconst 1, 1) := by decide +kernel
theorem dX8_spans_19 : decode cX8_spans 19 = .ok (.goto 4, 3) := by decide +kernel
theorem dX8_spans_22 : decode cX8_spans 22 = .ok (.iconst 0, 1) := by decide +kernel
theorem dX8_spans_23 : decode cX8_spans 23 = .ok (.ireturn, 1) := by decide +kernel
theorem dX8_put_0 : decode cX8_put 0 = .ok (.aload_n 0, 1) := by decide +kernel
theorem dX8_put_1 : decode cX8_put 1 = .ok (.getfield 19, 3) := by decide +kernel
theorem dX8_put_4 : decode cX8_put 4 = .ok (.tableswitch 66 0 2 #[28, 41, 54], 28) := by decide +kernel
theorem dX8_put_32 : decode cX8_put 32 = .ok (.aload_n 0, 1) := by decide +kernel
theorem dX8_put_33 : decode cX8_put 33 = .ok (.getfield 9, 3) := by decide +kernel
theorem dX8_put_36 : decode cX8_put 36 = .ok (.iload_n 1, 1) := by decide +kernel
theorem dX8_put_37 : decode cX8_put 37 = .ok (.lload_n 2, 1) := by decide +kernel
theorem dX8_put_38 : decode cX8_put 38 = .ok (.l2i, 1) := by decide +kernel
theorem dX8_put_39 : decode cX8_put 39 = .ok (.i2b, 1) := by decide +kernel
theorem dX8_put_40 : decode cX8_put 40 = .ok (.i2l, 1) := by decide +kernel
theorem dX8_put_41 : decode cX8_put 41 = .ok (.lastore, 1) := by decide +kernel
theorem dX8_put_42 : decode cX8_put 42 = .ok (.goto 35, 3) := by decide +kernel
theorem dX8_put_45 : decode cX8_put 45 = .ok (.aload_n 0, 1) := by decide +kernel
theorem dX8_put_46 : decode cX8_put 46 = .ok (.getfield 9, 3) := by decide +kernel
theorem dX8_put_49 : decode cX8_put 49 = .ok (.iload_n 1, 1) := by decide +kernel
theorem dX8_put_50 : decode cX8_put 50 = .ok (.lload_n 2, 1) := by decide +kernel
theorem dX8_put_51 : decode cX8_put 51 = .ok (.l2i, 1) := by decide +kernel
theorem dX8_put_52 : decode cX8_put 52 = .ok (.i2s, 1) := by decide +kernel
theorem dX8_put_53 : decode cX8_put 53 = .ok (.i2l, 1) := by decide +kernel
theorem dX8_put_54 : decode cX8_put 54 = .ok (.lastore, 1) := by decide +kernel
theorem dX8_put_55 : decode cX8_put 55 = .ok (.goto 22, 3) := by decide +kernel
theorem dX8_put_58 : decode cX8_put 58 = .ok (.aload_n 0, 1) := by decide +kernel
theorem dX8_put_59 : decode cX8_put 59 = .ok (.getfield 9, 3) := by decide +kernel
theorem dX8_put_62 : decode cX8_put 62 = .ok (.iload_n 1, 1) := by decide +kernel
theorem dX8_put_63 : decode cX8_put 63 = .ok (.lload_n 2, 1) := by decide +kernel
theorem dX8_put_64 : decode cX8_put 64 = .ok (.l2i, 1) := by decide +kernel
theorem dX8_put_65 : decode cX8_put 65 = .ok (.i2l, 1) := by decide +kernel
theorem dX8_put_66 : decode cX8_put 66 = .ok (.lastore, 1) := by decide +kernel
theorem dX8_put_67 : decode cX8_put 67 = .ok (.goto 10, 3) := by decide +kernel
theorem dX8_put_70 : decode cX8_put 70 = .ok (.aload_n 0, 1) := by decide +kernel
theorem dX8_put_71 : decode cX8_put 71 = .ok (.getfield 9, 3) := by decide +kernel
theorem dX8_put_74 : decode cX8_put 74 = .ok (.iload_n 1, 1) := by decide +kernel
theorem dX8_put_75 : decode cX8_put 75 = .ok (.lload_n 2, 1) := by decide +kernel
theorem dX8_put_76 : decode cX8_put 76 = .ok (.lastore, 1) := by decide +kernel
theorem dX8_put_77 : decode cX8_put 77 = .ok (.return_, 1) := by decide +kernel
theorem dX9_init_0 : decode cX9_init 0 = .ok (.aload_n 0, 1) := by decide +kernel
theorem dX9_init_1 : decode cX9_init 1 = .ok (.invokespecial 3, 3) := by decide +kernel
theorem dX9_init_4 : decode cX9_init 4 = .ok (.aload_n 0, 1) := by decide +kernel
theorem dX9_init_5 : decode cX9_init 5 = .ok (.sipush 256, 3) := by decide +kernel
theorem dX9_init_8 : decode cX9_init 8 = .ok (.newarray .int, 2) := by decide +kernel
theorem dX9_init_10 : decode cX9_init 10 = .ok (.putfield 9, 3) := by decide +kernel
theorem dX9_init_13 : decode cX9_init 13 = .ok (.aload_n 0, 1) := by decide +kernel
theorem dX9_init_14 : decode cX9_init 14 = .ok (.sipush 256, 3) := by decide +kernel
theorem dX9_init_17 : decode cX9_init 17 = .ok (.newarray .int, 2) := by decide +kernel
theorem dX9_init_19 : decode cX9_init 19 = .ok (.putfield 15, 3) := by decide +kernel
theorem dX9_init_22 : decode cX9_init 22 = .ok (.aload_n 0, 1) := by decide +kernel
theorem dX9_init_23 : decode cX9_init 23 = .ok (.aload_n 1, 1) := by decide +kernel
theorem dX9_init_24 : decode cX9_init 24 = .ok (.putfield 18, 3) := by decide +kernel
theorem dX9_init_27 : decode cX9_init 27 = .ok (.return_, 1) := by decide +kernel
theorem dX9_grow_0 : decode cX9_grow 0 = .ok (.iconst 1, 1) := by decide +kernel
theorem dX9_grow_1 : decode cX9_grow 1 = .ok (.istore_n 3, 1) := by decide +kernel
theorem dX9_grow_2 : decode cX9_grow 2 = .ok (.iload_n 3, 1) := by decide +kernel
theorem dX9_grow_3 : decode cX9_grow 3 = .ok (.iload_n 1, 1) := by decide +kernel
theorem dX9_grow_4 : decode cX9_grow 4 = .ok (.if_icmp .gt 23, 3) := by decide +kernel
theorem dX9_grow_7 : decode cX9_grow 7 = .ok (.iload_n 3, 1) := by decide +kernel
theorem dX9_grow_8 : decode cX9_grow 8 = .ok (.iload_n 1, 1) := by decide +kernel
theorem dX9_grow_9 : decode cX9_grow 9 = .ok (.iconst (-1), 1) := by decide +kernel
theorem dX9_grow_10 : decode cX9_grow 10 = .ok (.ixor, 1) := by decide +kernel
theorem dX9_grow_11 : decode cX9_grow 11 = .ok (.iand, 1) := by decide +kernel
theorem dX9_grow_12 : decode cX9_grow 12 = .ok (.ifCond .ne 9, 3) := by decide +kernel
theorem dX9_grow_15 : decode cX9_grow 15 = .ok (.aload_n 0, 1) := by decide +kernel
theorem dX9_grow_16 : decode cX9_grow 16 = .ok (.iload_n 3, 1) := by decide +kernel
theorem dX9_grow_17 : decode cX9_grow 17 = .ok (.iload_n 2, 1) := by decide +kernel
theorem dX9_grow_18 : decode cX9_grow 18 = .ok (.invokevirtual 22, 3) := by decide +kernel
theorem dX9_grow_21 : decode cX9_grow 21 = .ok (.iinc 3 1, 3) := by decide +kernel
theorem dX9_grow_24 : decode cX9_grow 24 = .ok (.goto (-22), 3) := by decide +kernel
theorem dX9_grow_27 : decode cX9_grow 27 = .ok (.return_, 1) := by decide +kernel
theorem dX9_growOne_0 : decode cX9_growOne 0 = .ok (.aload_n 0, 1) := by decide +kernel
theorem dX9_growOne_1 : decode cX9_growOne 1 = .ok (.getfield 9, 3) := by decide +kernel
theorem dX9_growOne_4 : decode cX9_growOne 4 = .ok (.iload_n 1, 1) := by decide +kernel
theorem dX9_growOne_5 : decode cX9_growOne 5 = .ok (.iload_n 1, 1) := by decide +kernel
theorem dX9_growOne_6 : decode cX9_growOne 6 = .ok (.invokestatic 26, 3) := by decide +kernel
theorem dX9_growOne_9 : decode cX9_growOne 9 = .ok (.iconst 1, 1) := by decide +kernel
theorem dX9_growOne_10 : decode cX9_growOne 10 = .ok (.if_icmp .ne 7, 3) := by decide +kernel
theorem dX9_growOne_13 : decode cX9_growOne 13 = .ok (.iconst 0, 1) := by decide +kernel
theorem dX9_growOne_14 : decode cX9_growOne 14 = .ok (.goto 4, 3) := by decide +kernel
theorem dX9_growOne_17 : decode cX9_growOne 17 = .ok (.iconst (-1), 1) := by decide +kernel
theorem dX9_growOne_18 : decode cX9_growOne 18 = .ok (.iastore, 1) := by decide +kernel
theorem dX9_growOne_19 : decode cX9_growOne 19 = .ok (.aload_n 0, 1) := by decide +kernel
theorem dX9_growOne_20 : decode cX9_growOne 20 = .ok (.getfield 15, 3) := by decide +kernel
theorem dX9_growOne_23 : decode cX9_growOne 23 = .ok (.iload_n 1, 1) := by decide +kernel
theorem dX9_growOne_24 : decode cX9_growOne 24 = .ok (.iconst (-1), 1) := by decide +kernel
theorem dX9_growOne_25 : decode cX9_growOne 25 = .ok (.iastore, 1) := by decide +kernel
theorem dX9_growOne_26 : decode cX9_growOne 26 = .ok (.aload_n 0, 1) := by decide +kernel
theorem dX9_growOne_27 : decode cX9_growOne 27 = .ok (.getfield 18, 3) := by decide +kernel
theorem dX9_growOne_30 : decode cX9_growOne 30 = .ok (.iload_n 1, 1) := by decide +kernel
theorem dX9_growOne_31 : decode cX9_growOne 31 = .ok (.invokevirtual 32, 3) := by decide +kernel
theorem dX9_growOne_34 : decode cX9_growOne 34 = .ok (.istore_n 3, 1) := by decide +kernel
theorem dX9_growOne_35 : decode cX9_growOne 35 = .ok (.iconst 0, 1) := by decide +kernel
theorem dX9_growOne_36 : decode cX9_growOne 36 = .ok (.istore 4, 2) := by decide +kernel
theorem dX9_growOne_38 : decode cX9_growOne 38 = .ok (.iload 4, 2) := by decide +kernel
theorem dX9_growOne_40 : decode cX9_growOne 40 = .ok (.aload_n 0, 1) := by decide +kernel
theorem dX9_growOne_41 : decode cX9_growOne 41 = .ok (.getfield 18, 3) := by decide +kernel
theorem dX9_growOne_44 : decode cX9_growOne 44 = .ok (.getfield 37, 3) := by decide +kernel
theorem dX9_growOne_47 : decode cX9_growOne 47 = .ok (.if_icmp .ge 167, 3) := by decide +kernel
theorem dX9_growOne_50 : decode cX9_growOne 50 = .ok (.iload_n 1, 1) := by decide +kernel
theorem dX9_growOne_51 : decode cX9_growOne 51 = .ok (.aload_n 0, 1) := by decide +kernel
theorem dX9_growOne_52 : decode cX9_growOne 52 = .ok (.getfield 18, 3) := by decide +kernel
theorem dX9_growOne_55 : decode cX9_growOne 55 = .ok (.getfield 41, 3) := by decide +kernel
theorem dX9_growOne_58 : decode cX9_growOne 58 = .ok (.iload 4, 2) := by decide +kernel
theorem dX9_growOne_60 : decode cX9_growOne 60 = .ok (.iaload, 1) := by decide +kernel
theorem dX9_growOne_61 : decode cX9_growOne 61 = .ok (.iand, 1) := by decide +kernel
theorem dX9_growOne_62 : decode cX9_growOne 62 = .ok (.istore 5, 2) := by decide +kernel
theorem dX9_growOne_64 : decode cX9_growOne 64 = .ok (.iload_n 1, 1) := by decide +kernel
theorem dX9_growOne_65 : decode cX9_growOne 65 = .ok (.aload_n 0, 1) := by decide +kernel
theorem dX9_growOne_66 : decode cX9_growOne 66 = .ok (.getfield 18, 3) := by decide +kernel
theorem dX9_growOne_69 : decode cX9_growOne 69 = .ok (.getfield 41, 3) := by decide +kernel
theorem dX9_growOne_72 : decode cX9_growOne 72 = .ok (.iload 4, 2) := by decide +kernel
theorem dX9_growOne_74 : decode cX9_growOne 74 = .ok (.iaload, 1) := by decide +kernel
theorem dX9_growOne_75 : decode cX9_growOne 75 = .ok (.iconst (-1), 1) := by decide +kernel
theorem dX9_growOne_76 : decode cX9_growOne 76 = .ok (.ixor, 1) := by decide +kernel
theorem dX9_growOne_77 : decode cX9_growOne 77 = .ok (.iand, 1) := by decide +kernel
theorem dX9_growOne_78 : decode cX9_growOne 78 = .ok (.istore 6, 2) := by decide +kernel
theorem dX9_growOne_80 : decode cX9_growOne 80 = .ok (.iload 5, 2) := by decide +kernel
theorem dX9_growOne_82 : decode cX9_growOne 82 = .ok (.ifCond .eq 126, 3) := by decide +kernel
theorem dX9_growOne_85 : decode cX9_growOne 85 = .ok (.iload 6, 2) := by decide +kernel
theorem dX9_growOne_87 : decode cX9_growOne 87 = .ok (.ifCond .eq 121, 3) := by decide +kernel
theorem dX9_growOne_90 : decode cX9_growOne 90 = .ok (.aload_n 0, 1) := by decide +kernel
theorem dX9_growOne_91 : decode cX9_growOne 91 = .ok (.getfield 9, 3) := by decide +kernel
theorem dX9_growOne_94 : decode cX9_growOne 94 = .ok (.iload 5, 2) := by decide +kernel
theorem dX9_growOne_96 : decode cX9_growOne 96 = .ok (.iaload, 1) := by decide +kernel
theorem dX9_growOne_97 : decode cX9_growOne 97 = .ok (.iconst (-1), 1) := by decide +kernel
theorem dX9_growOne_98 : decode cX9_growOne 98 = .ok (.if_icmp .eq 110, 3) := by decide +kernel
theorem dX9_growOne_101 : decode cX9_growOne 101 = .ok (.aload_n 0, 1) := by decide +kernel
theorem dX9_growOne_102 : decode cX9_growOne 102 = .ok (.getfield 9, 3) := by decide +kernel
theorem dX9_growOne_105 : decode cX9_growOne 105 = .ok (.iload 6, 2) := by decide +kernel
theorem dX9_growOne_107 : decode cX9_growOne 107 = .ok (.iaload, 1) := by decide +kernel
theorem dX9_growOne_108 : decode cX9_growOne 108 = .ok (.iconst (-1), 1) := by decide +kernel
theorem dX9_growOne_109 : decode cX9_growOne 109 = .ok (.if_icmp .ne 6, 3) := by decide +kernel
theorem dX9_growOne_112 : decode cX9_growOne 112 = .ok (.goto 96, 3) := by decide +kernel
theorem dX9_growOne_115 : decode cX9_growOne 115 = .ok (.iload_n 2, 1) := by decide +kernel
theorem dX9_growOne_116 : decode cX9_growOne 116 = .ok (.ifCond .eq 34, 3) := by decide +kernel
theorem dX9_growOne_119 : decode cX9_growOne 119 = .ok (.aload_n 0, 1) := by decide +kernel
theorem dX9_growOne_120 : decode cX9_growOne 120 = .ok (.getfield 18, 3) := by decide +kernel
theorem dX9_growOne_123 : decode cX9_growOne 123 = .ok (.getfield 44, 3) := by decide +kernel
theorem dX9_growOne_126 : decode cX9_growOne 126 = .ok (.iload 4, 2) := by decide +kernel
theorem dX9_growOne_128 : decode cX9_growOne 128 = .ok (.iaload, 1) := by decide +kernel
theorem dX9_growOne_129 : decode cX9_growOne 129 = .ok (.iload_n 3, 1) := by decide +kernel
theorem dX9_growOne_130 : decode cX9_growOne 130 = .ok (.imul, 1) := by decide +kernel
theorem dX9_growOne_131 : decode cX9_growOne 131 = .ok (.aload_n 0, 1) := by decide +kernel
theorem dX9_growOne_132 : decode cX9_growOne 132 = .ok (.getfield 9, 3) := by decide +kernel
theorem dX9_growOne_135 : decode cX9_growOne 135 = .ok (.iload 5, 2) := by decide +kernel
theorem dX9_growOne_137 : decode cX9_growOne 137 = .ok (.iaload, 1) := by decide +kernel
theorem dX9_growOne_138 : decode cX9_growOne 138 = .ok (.iadd, 1) := by decide +kernel
theorem dX9_growOne_139 : decode cX9_growOne 139 = .ok (.aload_n 0, 1) := by decide +kernel
theorem dX9_growOne_140 : decode cX9_growOne 140 = .ok (.getfield 9, 3) := by decide +kernel
theorem dX9_growOne_143 : decode cX9_growOne 143 = .ok (.iload 6, 2) := by decide +kernel
theorem dX9_growOne_145 : decode cX9_growOne 145 = .ok (.iaload, 1) := by decide +kernel
theorem dX9_growOne_146 : decode cX9_growOne 146 = .ok (.iadd, 1) := by decide +kernel
theorem dX9_growOne_147 : decode cX9_growOne 147 = .ok (.goto 22, 3) := by decide +kernel
theorem dX9_growOne_150 : decode cX9_growOne 150 = .ok (.iconst 1, 1) := by decide +kernel
theorem dX9_growOne_151 : decode cX9_growOne 151 = .ok (.aload_n 0, 1) := by decide +kernel
theorem dX9_growOne_152 : decode cX9_growOne 152 = .ok (.getfield 9, 3) := by decide +kernel
theorem dX9_growOne_155 : decode cX9_growOne 155 = .ok (.iload 5, 2) := by decide +kernel
theorem dX9_growOne_157 : decode cX9_growOne 157 = .ok (.iaload, 1) := by decide +kernel
theorem dX9_growOne_158 : decode cX9_growOne 158 = .ok (.aload_n 0, 1) := by decide +kernel
theorem dX9_growOne_159 : decode cX9_growOne 159 = .ok (.getfield 9, 3) := by decide +kernel
theorem dX9_growOne_162 : decode cX9_growOne 162 = .ok (.iload 6, 2) := by decide +kernel
theorem dX9_growOne_164 : decode cX9_growOne 164 = .ok (.iaload, 1) := by decide +kernel
theorem dX9_growOne_165 : decode cX9_growOne 165 = .ok (.invokestatic 47, 3) := by decide +kernel
theorem dX9_growOne_168 : decode cX9_growOne 168 = .ok (.iadd, 1) := by decide +kernel
theorem dX9_growOne_169 : decode cX9_growOne 169 = .ok (.istore 7, 2) := by decide +kernel
theorem dX9_growOne_171 : decode cX9_growOne 171 = .ok (.aload_n 0, 1) := by decide +kernel
theorem dX9_growOne_172 : decode cX9_growOne 172 = .ok (.getfield 9, 3) := by decide +kernel
theorem dX9_growOne_175 : decode cX9_growOne 175 = .ok (.iload_n 1, 1) := by decide +kernel
theorem dX9_growOne_176 : decode cX9_growOne 176 = .ok (.iaload, 1) := by decide +kernel
theorem dX9_growOne_177 : decode cX9_growOne 177 = .ok (.iconst (-1), 1) := by decide +kernel
theorem dX9_growOne_178 : decode cX9_growOne 178 = .ok (.if_icmp .eq 14, 3) := by decide +kernel
theorem dX9_growOne_181 : decode cX9_growOne 181 = .ok (.iload 7, 2) := by decide +kernel
theorem dX9_growOne_183 : decode cX9_growOne 183 = .ok (.aload_n 0, 1) := by decide +kernel
theorem dX9_growOne_184 : decode cX9_growOne 184 = .ok (.getfield 9, 3) := by decide +kernel
theorem dX9_growOne_187 : decode cX9_growOne 187 = .ok (.iload_n 1, 1) := by decide +kernel
theorem dX9_growOne_188 : decode cX9_growOne 188 = .ok (.iaload, 1) := by decide +kernel
theorem dX9_growOne_189 : decode cX9_growOne 189 = .ok (.if_icmp .ge 19, 3) := by decide +kernel
theorem dX9_growOne_192 : decode cX9_growOne 192 = .ok (.aload_n 0, 1) := by decide +kernel
theorem dX9_growOne_193 : decode cX9_growOne 193 = .ok (.getfield 9, 3) := by decide +kernel
theorem dX9_growOne_196 : decode cX9_growOne 196 = .ok (.iload_n 1, 1) := by decide +kernel
theorem dX9_growOne_197 : decode cX9_growOne 197 = .ok (.iload 7, 2) := by decide +kernel
theorem dX9_growOne_199 : decode cX9_growOne 199 = .ok (.iastore, 1) := by decide +kernel
theorem dX9_growOne_200 : decode cX9_growOne 200 = .ok (.aload_n 0, 1) := by decide +kernel
theorem dX9_growOne_201 : decode cX9_growOne 201 = .ok (.getfield 15, 3) := by decide +kernel
theorem dX9_growOne_204 : decode cX9_growOne 204 = .ok (.iload_n 1, 1) := by decide +kernel
theorem dX9_growOne_205 : decode cX9_growOne 205 = .ok (.iload 4, 2) := by decide +kernel
theorem dX9_growOne_207 : decode cX9_growOne 207 = .ok (.iastore, 1) := by decide +kernel
theorem dX9_growOne_208 : decode cX9_growOne 208 = .ok (.iinc 4 1, 3) := by decide +kernel
theorem dX9_growOne_211 : decode cX9_growOne 211 = .ok (.goto (-173), 3) := by decide +kernel
theorem dX9_growOne_214 : decode cX9_growOne 214 = .ok (.return_, 1) := by decide +kernel
theorem dJ6_bitCount_0f7a4_0 : decode cJ6_bitCount_0f7a4 0 = .ok (.iload_n 0, 1) := by decide +kernel
theorem dJ6_bitCount_0f7a4_1 : decode cJ6_bitCount_0f7a4 1 = .ok (.iload_n 0, 1) := by decide +kernel
theorem dJ6_bitCount_0f7a4_2 : decode cJ6_bitCount_0f7a4 2 = .ok (.iconst 1, 1) := by decide +kernel
theorem dJ6_bitCount_0f7a4_3 : decode cJ6_bitCount_0f7a4 3 = .ok (.iushr, 1) := by decide +kernel
theorem dJ6_bitCount_0f7a4_4 : decode cJ6_bitCount_0f7a4 4 = .ok (.ldc_w 265, 3) := by decide +kernel
theorem dJ6_bitCount_0f7a4_7 : decode cJ6_bitCount_0f7a4 7 = .ok (.iand, 1) := by decide +kernel
theorem dJ6_bitCount_0f7a4_8 : decode cJ6_bitCount_0f7a4 8 = .ok (.isub, 1) := by decide +kernel
theorem dJ6_bitCount_0f7a4_9 : decode cJ6_bitCount_0f7a4 9 = .ok (.istore_n 0, 1) := by decide +kernel
theorem dJ6_bitCount_0f7a4_10 : decode cJ6_bitCount_0f7a4 10 = .ok (.iload_n 0, 1) := by decide +kernel
theorem dJ6_bitCount_0f7a4_11 : decode cJ6_bitCount_0f7a4 11 = .ok (.ldc_w 266, 3) := by decide +kernel
theorem dJ6_bitCount_0f7a4_14 : decode cJ6_bitCount_0f7a4 14 = .ok (.iand, 1) := by decide +kernel
theorem dJ6_bitCount_0f7a4_15 : decode cJ6_bitCount_0f7a4 15 = .ok (.iload_n 0, 1) := by decide +kernel
theorem dJ6_bitCount_0f7a4_16 : decode cJ6_bitCount_0f7a4 16 = .ok (.iconst 2, 1) := by decide +kernel
theorem dJ6_bitCount_0f7a4_17 : decode cJ6_bitCount_0f7a4 17 = .ok (.iushr, 1) := by decide +kernel
theorem dJ6_bitCount_0f7a4_18 : decode cJ6_bitCount_0f7a4 18 = .ok (.ldc_w 266, 3) := by decide +kernel
theorem dJ6_bitCount_0f7a4_21 : decode cJ6_bitCount_0f7a4 21 = .ok (.iand, 1) := by decide +kernel
theorem dJ6_bitCount_0f7a4_22 : decode cJ6_bitCount_0f7a4 22 = .ok (.iadd, 1) := by decide +kernel
theorem dJ6_bitCount_0f7a4_23 : decode cJ6_bitCount_0f7a4 23 = .ok (.istore_n 0, 1) := by decide +kernel
theorem dJ6_bitCount_0f7a4_24 : decode cJ6_bitCount_0f7a4 24 = .ok (.iload_n 0, 1) := by decide +kernel
theorem dJ6_bitCount_0f7a4_25 : decode cJ6_bitCount_0f7a4 25 = .ok (.iload_n 0, 1) := by decide +kernel
theorem dJ6_bitCount_0f7a4_26 : decode cJ6_bitCount_0f7a4 26 = .ok (.iconst 4, 1) := by decide +kernel
theorem dJ6_bitCount_0f7a4_27 : decode cJ6_bitCount_0f7a4 27 = .ok (.iushr, 1) := by decide +kernel
theorem dJ6_bitCount_0f7a4_28 : decode cJ6_bitCount_0f7a4 28 = .ok (.iadd, 1) := by decide +kernel
theorem dJ6_bitCount_0f7a4_29 : decode cJ6_bitCount_0f7a4 29 = .ok (.ldc_w 267, 3) := by decide +kernel
theorem dJ6_bitCount_0f7a4_32 : decode cJ6_bitCount_0f7a4 32 = .ok (.iand, 1) := by decide +kernel
theorem dJ6_bitCount_0f7a4_33 : decode cJ6_bitCount_0f7a4 33 = .ok (.istore_n 0, 1) := by decide +kernel
theorem dJ6_bitCount_0f7a4_34 : decode cJ6_bitCount_0f7a4 34 = .ok (.iload_n 0, 1) := by decide +kernel
theorem dJ6_bitCount_0f7a4_35 : decode cJ6_bitCount_0f7a4 35 = .ok (.iload_n 0, 1) := by decide +kernel
theorem dJ6_bitCount_0f7a4_36 : decode cJ6_bitCount_0f7a4 36 = .ok (.bipush 8, 2) := by decide +kernel
theorem dJ6_bitCount_0f7a4_38 : decode cJ6_bitCount_0f7a4 38 = .ok (.iushr, 1) := by decide +kernel
theorem dJ6_bitCount_0f7a4_39 : decode cJ6_bitCount_0f7a4 39 = .ok (.iadd, 1) := by decide +kernel
theorem dJ6_bitCount_0f7a4_40 : decode cJ6_bitCount_0f7a4 40 = .ok (.istore_n 0, 1) := by decide +kernel
theorem dJ6_bitCount_0f7a4_41 : decode cJ6_bitCount_0f7a4 41 = .ok (.iload_n 0, 1) := by decide +kernel
theorem dJ6_bitCount_0f7a4_42 : decode cJ6_bitCount_0f7a4 42 = .ok (.iload_n 0, 1) := by decide +kernel
theorem dJ6_bitCount_0f7a4_43 : decode cJ6_bitCount_0f7a4 43 = .ok (.bipush 16, 2) := by decide +kernel
theorem dJ6_bitCount_0f7a4_45 : decode cJ6_bitCount_0f7a4 45 = .ok (.iushr, 1) := by decide +kernel
theorem dJ6_bitCount_0f7a4_46 : decode cJ6_bitCount_0f7a4 46 = .ok (.iadd, 1) := by decide +kernel
theorem dJ6_bitCount_0f7a4_47 : decode cJ6_bitCount_0f7a4 47 = .ok (.istore_n 0, 1) := by decide +kernel
theorem dJ6_bitCount_0f7a4_48 : decode cJ6_bitCount_0f7a4 48 = .ok (.iload_n 0, 1) := by decide +kernel
theorem dJ6_bitCount_0f7a4_49 : decode cJ6_bitCount_0f7a4 49 = .ok (.bipush 63, 2) := by decide +kernel
theorem dJ6_bitCount_0f7a4_51 : decode cJ6_bitCount_0f7a4 51 = .ok (.iand, 1) := by decide +kernel
theorem dJ6_bitCount_0f7a4_52 : decode cJ6_bitCount_0f7a4 52 = .ok (.ireturn, 1) := by decide +kernel
theorem dJ9_abs_0f7a4_0 : decode cJ9_abs_0f7a4 0 = .ok (.iload_n 0, 1) := by decide +kernel
theorem dJ9_abs_0f7a4_1 : decode cJ9_abs_0f7a4 1 = .ok (.ifCond .ge 8, 3) := by decide +kernel
theorem dJ9_abs_0f7a4_4 : decode cJ9_abs_0f7a4 4 = .ok (.iload_n 0, 1) := by decide +kernel
theorem dJ9_abs_0f7a4_5 : decode cJ9_abs_0f7a4 5 = .ok (.ineg, 1) := by decide +kernel
theorem dJ9_abs_0f7a4_6 : decode cJ9_abs_0f7a4 6 = .ok (.goto 4, 3) := by decide +kernel
theorem dJ9_abs_0f7a4_9 : decode cJ9_abs_0f7a4 9 = .ok (.iload_n 0, 1) := by decide +kernel
theorem dJ9_abs_0f7a4_10 : decode cJ9_abs_0f7a4 10 = .ok (.ireturn, 1) := by decide +kernel
theorem dJ9_max_7cf53_0 : decode cJ9_max_7cf53 0 = .ok (.iload_n 0, 1) := by decide +kernel
theorem dJ9_max_7cf53_1 : decode cJ9_max_7cf53 1 = .ok (.iload_n 1, 1) := by decide +kernel
theorem dJ9_max_7cf53_2 : decode cJ9_max_7cf53 2 = .ok (.if_icmp .lt 7, 3) := by decide +kernel
theorem dJ9_max_7cf53_5 : decode cJ9_max_7cf53 5 = .ok (.iload_n 0, 1) := by decide +kernel
theorem dJ9_max_7cf53_6 : decode cJ9_max_7cf53 6 = .ok (.goto 4, 3) := by decide +kernel
theorem dJ9_max_7cf53_9 : decode cJ9_max_7cf53 9 = .ok (.iload_n 1, 1) := by decide +kernel
theorem dJ9_max_7cf53_10 : decode cJ9_max_7cf53 10 = .ok (.ireturn, 1) := by decide +kernel
theorem dJ9_max_f86c9_0 : decode cJ9_max_f86c9 0 = .ok (.lload_n 0, 1) := by decide +kernel
theorem dJ9_max_f86c9_1 : decode cJ9_max_f86c9 1 = .ok (.lload_n 2, 1) := by decide +kernel
theorem dJ9_max_f86c9_2 : decode cJ9_max_f86c9 2 = .ok (.lcmp, 1) := by decide +kernel
theorem dJ9_max_f86c9_3 : decode cJ9_max_f86c9 3 = .ok (.ifCond .lt 7, 3) := by decide +kernel
theorem dJ9_max_f86c9_6 : decode cJ9_max_f86c9 6 = .ok (.lload_n 0, 1) := by decide +kernel
theorem dJ9_max_f86c9_7 : decode cJ9_max_f86c9 7 = .ok (.goto 4, 3) := by decide +kernel
theorem dJ9_max_f86c9_10 : decode cJ9_max_f86c9 10 = .ok (.lload_n 2, 1) := by decide +kernel
theorem dJ9_max_f86c9_11 : decode cJ9_max_f86c9 11 = .ok (.lreturn, 1) := by decide +kernel
theorem dJ9_min_7cf53_0 : decode cJ9_min_7cf53 0 = .ok (.iload_n 0, 1) := by decide +kernel
theorem dJ9_min_7cf53_1 : decode cJ9_min_7cf53 1 = .ok (.iload_n 1, 1) := by decide +kernel
theorem dJ9_min_7cf53_2 : decode cJ9_min_7cf53 2 = .ok (.if_icmp .gt 7, 3) := by decide +kernel
theorem dJ9_min_7cf53_5 : decode cJ9_min_7cf53 5 = .ok (.iload_n 0, 1) := by decide +kernel
theorem dJ9_min_7cf53_6 : decode cJ9_min_7cf53 6 = .ok (.goto 4, 3) := by decide +kernel
theorem dJ9_min_7cf53_9 : decode cJ9_min_7cf53 9 = .ok (.iload_n 1, 1) := by decide +kernel
theorem dJ9_min_7cf53_10 : decode cJ9_min_7cf53 10 = .ok (.ireturn, 1) := by decide +kernel
theorem dJ0_length_8abf5_0 : decode cJ0_length_8abf5 0 = .ok (.aload_n 0, 1) := by decide +kernel
theorem dJ0_length_8abf5_1 : decode cJ0_length_8abf5 1 = .ok (.getfield 9, 3) := by decide +kernel
theorem dJ0_length_8abf5_4 : decode cJ0_length_8abf5 4 = .ok (.arraylength, 1) := by decide +kernel
theorem dJ0_length_8abf5_5 : decode cJ0_length_8abf5 5 = .ok (.aload_n 0, 1) := by decide +kernel
theorem dJ0_length_8abf5_6 : decode cJ0_length_8abf5 6 = .ok (.invokevirtual 335, 3) := by decide +kernel
theorem dJ0_length_8abf5_9 : decode cJ0_length_8abf5 9 = .ok (.ishr, 1) := by decide +kernel
theorem dJ0_length_8abf5_10 : decode cJ0_length_8abf5 10 = .ok (.ireturn, 1) := by decide +kernel
theorem dJ0_charAt_5068e_0 : decode cJ0_charAt_5068e 0 = .ok (.aload_n 0, 1) := by decide +kernel
theorem dJ0_charAt_5068e_1 : decode cJ0_charAt_5068e 1 = .ok (.invokevirtual 492, 3) := by decide +kernel
theorem dJ0_charAt_5068e_4 : decode cJ0_charAt_5068e 4 = .ok (.ifCond .eq 12, 3) := by decide +kernel
theorem dJ0_charAt_5068e_7 : decode cJ0_charAt_5068e 7 = .ok (.aload_n 0, 1) := by decide +kernel
theorem dJ0_charAt_5068e_8 : decode cJ0_charAt_5068e 8 = .ok (.getfield 9, 3) := by decide +kernel
theorem dJ0_charAt_5068e_11 : decode cJ0_charAt_5068e 11 = .ok (.iload_n 1, 1) := by decide +kernel
theorem dJ0_charAt_5068e_12 : decode cJ0_charAt_5068e 12 = .ok (.invokestatic 495, 3) := by decide +kernel
theorem dJ0_charAt_5068e_15 : decode cJ0_charAt_5068e 15 = .ok (.ireturn, 1) := by decide +kernel
theorem dJ0_charAt_5068e_16 : decode cJ0_charAt_5068e 16 = .ok (.aload_n 0, 1) := by decide +kernel
theorem dJ0_charAt_5068e_17 : decode cJ0_charAt_5068e 17 = .ok (.getfield 9, 3) := by decide +kernel
theorem dJ0_charAt_5068e_20 : decode cJ0_charAt_5068e 20 = .ok (.iload_n 1, 1) := by decide +kernel
theorem dJ0_charAt_5068e_21 : decode cJ0_charAt_5068e 21 = .ok (.invokestatic 498, 3) := by decide +kernel
theorem dJ0_charAt_5068e_24 : decode cJ0_charAt_5068e 24 = .ok (.ireturn, 1) := by decide +kernel
theorem dJ0_coder_7d493_0 : decode cJ0_coder_7d493 0 = .ok (.getstatic 38, 3) := by decide +kernel
theorem dJ0_coder_7d493_3 : decode cJ0_coder_7d493 3 = .ok (.ifCond .eq 10, 3) := by decide +kernel
theorem dJ0_coder_7d493_6 : decode cJ0_coder_7d493 6 = .ok (.aload_n 0, 1) := by decide +kernel
theorem dJ0_coder_7d493_7 : decode cJ0_coder_7d493 7 = .ok (.getfield 15, 3) := by decide +kernel
theorem dJ0_coder_7d493_10 : decode cJ0_coder_7d493 10 = .ok (.goto 4, 3) := by decide +kernel
theorem dJ0_coder_7d493_13 : decode cJ0_coder_7d493 13 = .ok (.iconst 1, 1) := by decide +kernel
theorem dJ0_coder_7d493_14 : decode cJ0_coder_7d493 14 = .ok (.ireturn, 1) := by decide +kernel
theorem dJ0_isLatin1_aae02_0 : decode cJ0_isLatin1_aae02 0 = .ok (.getstatic 38, 3) := by decide +kernel
theorem dJ0_isLatin1_aae02_3 : decode cJ0_isLatin1_aae02 3 = .ok (.ifCond .eq 14, 3) := by decide +kernel
theorem dJ0_isLatin1_aae02_6 : decode cJ0_isLatin1_aae02 6 = .ok (.aload_n 0, 1) := by decide +kernel
theorem dJ0_isLatin1_aae02_7 : decode cJ0_isLatin1_aae02 7 = .ok (.getfield 15, 3) := by decide +kernel
theorem dJ0_isLatin1_aae02_10 : decode cJ0_isLatin1_aae02 10 = .ok (.ifCond .ne 7, 3) := by decide +kernel
theorem dJ0_isLatin1_aae02_13 : decode cJ0_isLatin1_aae02 13 = .ok (.iconst 1, 1) := by decide +kernel
theorem dJ0_isLatin1_aae02_14 : decode cJ0_isLatin1_aae02 14 = .ok (.goto 4, 3) := by decide +kernel
theorem dJ0_isLatin1_aae02_17 : decode cJ0_isLatin1_aae02 17 = .ok (.iconst 0, 1) := by decide +kernel
theorem dJ0_isLatin1_aae02_18 : decode cJ0_isLatin1_aae02 18 = .ok (.ireturn, 1) := by decide +kernel
theorem dJ0_checkIndex_df160_0 : decode cJ0_checkIndex_df160 0 = .ok (.iload_n 0, 1) := by decide +kernel
theorem dJ0_checkIndex_df160_1 : decode cJ0_checkIndex_df160 1 = .ok (.iload_n 1, 1) := by decide +kernel
theorem dJ0_checkIndex_df160_2 : decode cJ0_checkIndex_df160 2 = .ok (.getstatic 1053, 3) := by decide +kernel
theorem dJ0_checkIndex_df160_5 : decode cJ0_checkIndex_df160 5 = .ok (.invokestatic 1059, 3) := by decide +kernel
theorem dJ0_checkIndex_df160_8 : decode cJ0_checkIndex_df160 8 = .ok (.pop, 1) := by decide +kernel
theorem dJ0_checkIndex_df160_9 : decode cJ0_checkIndex_df160 9 = .ok (.return_, 1) := by decide +kernel
theorem dJ1_charAt_3b067_0 : decode cJ1_charAt_3b067 0 = .ok (.iload_n 1, 1) := by decide +kernel
theorem dJ1_charAt_3b067_1 : decode cJ1_charAt_3b067 1 = .ok (.aload_n 0, 1) := by decide +kernel
theorem dJ1_charAt_3b067_2 : decode cJ1_charAt_3b067 2 = .ok (.arraylength, 1) := by decide +kernel
theorem dJ1_charAt_3b067_3 : decode cJ1_charAt_3b067 3 = .ok (.invokestatic 9, 3) := by decide +kernel
theorem dJ1_charAt_3b067_6 : decode cJ1_charAt_3b067 6 = .ok (.aload_n 0, 1) := by decide +kernel
theorem dJ1_charAt_3b067_7 : decode cJ1_charAt_3b067 7 = .ok (.iload_n 1, 1) := by decide +kernel
theorem dJ1_charAt_3b067_8 : decode cJ1_charAt_3b067 8 = .ok (.baload, 1) := by decide +kernel
theorem dJ1_charAt_3b067_9 : decode cJ1_charAt_3b067 9 = .ok (.sipush 255, 3) := by decide +kernel
theorem dJ1_charAt_3b067_12 : decode cJ1_charAt_3b067 12 = .ok (.iand, 1) := by decide +kernel
theorem dJ1_charAt_3b067_13 : decode cJ1_charAt_3b067 13 = .ok (.i2c, 1) := by decide +kernel
theorem dJ1_charAt_3b067_14 : decode cJ1_charAt_3b067 14 = .ok (.ireturn, 1) := by decide +kernel
theorem dJ2_getChar_3b067_0 : decode cJ2_getChar_3b067 0 = .ok (.getstatic 44, 3) := by decide +kernel
theorem dJ2_getChar_3b067_3 : decode cJ2_getChar_3b067 3 = .ok (.ifCond .ne 25, 3) := by decide +kernel
theorem dJ2_getChar_3b067_6 : decode cJ2_getChar_3b067 6 = .ok (.iload_n 1, 1) := by decide +kernel
theorem dJ2_getChar_3b067_7 : decode cJ2_getChar_3b067 7 = .ok (.ifCond .lt 11, 3) := by decide +kernel
theorem dJ2_getChar_3b067_10 : decode cJ2_getChar_3b067 10 = .ok (.iload_n 1, 1) := by decide +kernel
theorem dJ2_getChar_3b067_11 : decode cJ2_getChar_3b067 11 = .ok (.aload_n 0, 1) := by decide +kernel
theorem dJ2_getChar_3b067_12 : decode cJ2_getChar_3b067 12 = .ok (.invokestatic 48, 3) := by decide +kernel
theorem dJ2_getChar_3b067_15 : decode cJ2_getChar_3b067 15 = .ok (.if_icmp .lt 13, 3) := by decide +kernel
theorem dJ2_getChar_3b067_18 : decode cJ2_getChar_3b067 18 = .ok (.new 52, 3) := by decide +kernel
theorem dJ2_getChar_3b067_21 : decode cJ2_getChar_3b067 21 = .ok (.dup, 1) := by decide +kernel
theorem dJ2_getChar_3b067_22 : decode cJ2_getChar_3b067 22 = .ok (.ldc 54, 2) := by decide +kernel
theorem dJ2_getChar_3b067_24 : decode cJ2_getChar_3b067 24 = .ok (.invokespecial 56, 3) := by decide +kernel
theorem dJ2_getChar_3b067_27 : decode cJ2_getChar_3b067 27 = .ok (.athrow, 1) := by decide +kernel
theorem dJ2_getChar_3b067_28 : decode cJ2_getChar_3b067 28 = .ok (.iload_n 1, 1) := by decide +kernel
theorem dJ2_getChar_3b067_29 : decode cJ2_getChar_3b067 29 = .ok (.iconst 1, 1) := by decide +kernel
theorem dJ2_getChar_3b067_30 : decode cJ2_getChar_3b067 30 = .ok (.ishl, 1) := by decide +kernel
theorem dJ2_getChar_3b067_31 : decode cJ2_getChar_3b067 31 = .ok (.istore_n 1, 1) := by decide +kernel
theorem dJ2_getChar_3b067_32 : decode cJ2_getChar_3b067 32 = .ok (.aload_n 0, 1) := by decide +kernel
theorem dJ2_getChar_3b067_33 : decode cJ2_getChar_3b067 33 = .ok (.iload_n 1, 1) := by decide +kernel
theorem dJ2_getChar_3b067_34 : decode cJ2_getChar_3b067 34 = .ok (.iinc 1 1, 3) := by decide +kernel
theorem dJ2_getChar_3b067_37 : decode cJ2_getChar_3b067 37 = .ok (.baload, 1) := by decide +kernel
theorem dJ2_getChar_3b067_38 : decode cJ2_getChar_3b067 38 = .ok (.sipush 255, 3) := by decide +kernel
theorem dJ2_getChar_3b067_41 : decode cJ2_getChar_3b067 41 = .ok (.iand, 1) := by decide +kernel
theorem dJ2_getChar_3b067_42 : decode cJ2_getChar_3b067 42 = .ok (.getstatic 59, 3) := by decide +kernel
theorem dJ2_getChar_3b067_45 : decode cJ2_getChar_3b067 45 = .ok (.ishl, 1) := by decide +kernel
theorem dJ2_getChar_3b067_46 : decode cJ2_getChar_3b067 46 = .ok (.aload_n 0, 1) := by decide +kernel
theorem dJ2_getChar_3b067_47 : decode cJ2_getChar_3b067 47 = .ok (.iload_n 1, 1) := by decide +kernel
theorem dJ2_getChar_3b067_48 : decode cJ2_getChar_3b067 48 = .ok (.baload, 1) := by decide +kernel
theorem dJ2_getChar_3b067_49 : decode cJ2_getChar_3b067 49 = .ok (.sipush 255, 3) := by decide +kernel
theorem dJ2_getChar_3b067_52 : decode cJ2_getChar_3b067 52 = .ok (.iand, 1) := by decide +kernel
theorem dJ2_getChar_3b067_53 : decode cJ2_getChar_3b067 53 = .ok (.getstatic 63, 3) := by decide +kernel
theorem dJ2_getChar_3b067_56 : decode cJ2_getChar_3b067 56 = .ok (.ishl, 1) := by decide +kernel
theorem dJ2_getChar_3b067_57 : decode cJ2_getChar_3b067 57 = .ok (.ior, 1) := by decide +kernel
theorem dJ2_getChar_3b067_58 : decode cJ2_getChar_3b067 58 = .ok (.i2c, 1) := by decide +kernel
theorem dJ2_getChar_3b067_59 : decode cJ2_getChar_3b067 59 = .ok (.ireturn, 1) := by decide +kernel
theorem dJ2_length_9d52b_0 : decode cJ2_length_9d52b 0 = .ok (.aload_n 0, 1) := by decide +kernel
theorem dJ2_length_9d52b_1 : decode cJ2_length_9d52b 1 = .ok (.arraylength, 1) := by decide +kernel
theorem dJ2_length_9d52b_2 : decode cJ2_length_9d52b 2 = .ok (.iconst 1, 1) := by decide +kernel
theorem dJ2_length_9d52b_3 : decode cJ2_length_9d52b 3 = .ok (.ishr, 1) := by decide +kernel
theorem dJ2_length_9d52b_4 : decode cJ2_length_9d52b 4 = .ok (.ireturn, 1) := by decide +kernel
theorem dJ2_charAt_3b067_0 : decode cJ2_charAt_3b067 0 = .ok (.iload_n 1, 1) := by decide +kernel
theorem dJ2_charAt_3b067_1 : decode cJ2_charAt_3b067 1 = .ok (.aload_n 0, 1) := by decide +kernel
theorem dJ2_charAt_3b067_2 : decode cJ2_charAt_3b067 2 = .ok (.invokestatic 67, 3) := by decide +kernel
theorem dJ2_charAt_3b067_5 : decode cJ2_charAt_3b067 5 = .ok (.aload_n 0, 1) := by decide +kernel
theorem dJ2_charAt_3b067_6 : decode cJ2_charAt_3b067 6 = .ok (.iload_n 1, 1) := by decide +kernel
theorem dJ2_charAt_3b067_7 : decode cJ2_charAt_3b067 7 = .ok (.invokestatic 71, 3) := by decide +kernel
theorem dJ2_charAt_3b067_10 : decode cJ2_charAt_3b067 10 = .ok (.ireturn, 1) := by decide +kernel
theorem dJ2_checkIndex_2214a_0 : decode cJ2_checkIndex_2214a 0 = .ok (.iload_n 0, 1) := by decide +kernel
theorem dJ2_checkIndex_2214a_1 : decode cJ2_checkIndex_2214a 1 = .ok (.aload_n 1, 1) := by decide +kernel
theorem dJ2_checkIndex_2214a_2 : decode cJ2_checkIndex_2214a 2 = .ok (.invokestatic 48, 3) := by decide +kernel
theorem dJ2_checkIndex_2214a_5 : decode cJ2_checkIndex_2214a 5 = .ok (.invokestatic 414, 3) := by decide +kernel
theorem dJ2_checkIndex_2214a_8 : decode cJ2_checkIndex_2214a 8 = .ok (.return_, 1) := by decide +kernel
theorem dJ7_fill_d0a16_0 : decode cJ7_fill_d0a16 0 = .ok (.iconst 0, 1) := by decide +kernel
theorem dJ7_fill_d0a16_1 : decode cJ7_fill_d0a16 1 = .ok (.istore_n 3, 1) := by decide +kernel
theorem dJ7_fill_d0a16_2 : decode cJ7_fill_d0a16 2 = .ok (.aload_n 0, 1) := by decide +kernel
theorem dJ7_fill_d0a16_3 : decode cJ7_fill_d0a16 3 = .ok (.arraylength, 1) := by decide +kernel
theorem dJ7_fill_d0a16_4 : decode cJ7_fill_d0a16 4 = .ok (.istore 4, 2) := by decide +kernel
theorem dJ7_fill_d0a16_6 : decode cJ7_fill_d0a16 6 = .ok (.iload_n 3, 1) := by decide +kernel
theorem dJ7_fill_d0a16_7 : decode cJ7_fill_d0a16 7 = .ok (.iload 4, 2) := by decide +kernel
theorem dJ7_fill_d0a16_9 : decode cJ7_fill_d0a16 9 = .ok (.if_icmp .ge 13, 3) := by decide +kernel
theorem dJ7_fill_d0a16_12 : decode cJ7_fill_d0a16 12 = .ok (.aload_n 0, 1) := by decide +kernel
theorem dJ7_fill_d0a16_13 : decode cJ7_fill_d0a16 13 = .ok (.iload_n 3, 1) := by decide +kernel
theorem dJ7_fill_d0a16_14 : decode cJ7_fill_d0a16 14 = .ok (.lload_n 1, 1) := by decide +kernel
theorem dJ7_fill_d0a16_15 : decode cJ7_fill_d0a16 15 = .ok (.lastore, 1) := by decide +kernel
theorem dJ7_fill_d0a16_16 : decode cJ7_fill_d0a16 16 = .ok (.iinc 3 1, 3) := by decide +kernel
theorem dJ7_fill_d0a16_19 : decode cJ7_fill_d0a16 19 = .ok (.goto (-13), 3) := by decide +kernel
theorem dJ7_fill_d0a16_22 : decode cJ7_fill_d0a16 22 = .ok (.return_, 1) := by decide +kernel
theorem dJ3_checkIndex_8e157_0 : decode cJ3_checkIndex_8e157 0 = .ok (.iload_n 0, 1) := by decide +kernel
theorem dJ3_checkIndex_8e157_1 : decode cJ3_checkIndex_8e157 1 = .ok (.ifCond .lt 8, 3) := by decide +kernel
theorem dJ3_checkIndex_8e157_4 : decode cJ3_checkIndex_8e157 4 = .ok (.iload_n 0, 1) := by decide +kernel
theorem dJ3_checkIndex_8e157_5 : decode cJ3_checkIndex_8e157 5 = .ok (.iload_n 1, 1) := by decide +kernel
theorem dJ3_checkIndex_8e157_6 : decode cJ3_checkIndex_8e157 6 = .ok (.if_icmp .lt 10, 3) := by decide +kernel
theorem dJ3_checkIndex_8e157_9 : decode cJ3_checkIndex_8e157 9 = .ok (.aload_n 2, 1) := by decide +kernel
theorem dJ3_checkIndex_8e157_10 : decode cJ3_checkIndex_8e157 10 = .ok (.iload_n 0, 1) := by decide +kernel
theorem dJ3_checkIndex_8e157_11 : decode cJ3_checkIndex_8e157 11 = .ok (.iload_n 1, 1) := by decide +kernel
theorem dJ3_checkIndex_8e157_12 : decode cJ3_checkIndex_8e157 12 = .ok (.invokestatic 95, 3) := by decide +kernel
theorem dJ3_checkIndex_8e157_15 : decode cJ3_checkIndex_8e157 15 = .ok (.athrow, 1) := by decide +kernel
theorem dJ3_checkIndex_8e157_16 : decode cJ3_checkIndex_8e157 16 = .ok (.iload_n 0, 1) := by decide +kernel
theorem dJ3_checkIndex_8e157_17 : decode cJ3_checkIndex_8e157 17 = .ok (.ireturn, 1) := by decide +kernel
