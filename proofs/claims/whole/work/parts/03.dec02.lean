theorem dX8_eachParcelIsOnce_148 : decode cX8_eachParcelIsOnce 148 = .ok (.getfield 64, 3) := by decide +kernel
theorem dX8_eachParcelIsOnce_151 : decode cX8_eachParcelIsOnce 151 = .ok (.arraylength, 1) := by decide +kernel
theorem dX8_eachParcelIsOnce_152 : decode cX8_eachParcelIsOnce 152 = .ok (.if_icmp .ge 36, 3) := by decide +kernel
theorem dX8_eachParcelIsOnce_155 : decode cX8_eachParcelIsOnce 155 = .ok (.aload_n 0, 1) := by decide +kernel
theorem dX8_eachParcelIsOnce_156 : decode cX8_eachParcelIsOnce 156 = .ok (.getfield 64, 3) := by decide +kernel
theorem dX8_eachParcelIsOnce_159 : decode cX8_eachParcelIsOnce 159 = .ok (.iload_n 1, 1) := by decide +kernel
theorem dX8_eachParcelIsOnce_160 : decode cX8_eachParcelIsOnce 160 = .ok (.iaload, 1) := by decide +kernel
theorem dX8_eachParcelIsOnce_161 : decode cX8_eachParcelIsOnce 161 = .ok (.aload_n 0, 1) := by decide +kernel
theorem dX8_eachParcelIsOnce_162 : decode cX8_eachParcelIsOnce 162 = .ok (.getfield 10, 3) := by decide +kernel
theorem dX8_eachParcelIsOnce_165 : decode cX8_eachParcelIsOnce 165 = .ok (.iload_n 1, 1) := by decide +kernel
theorem dX8_eachParcelIsOnce_166 : decode cX8_eachParcelIsOnce 166 = .ok (.invokevirtual 265, 3) := by decide +kernel
theorem dX8_eachParcelIsOnce_169 : decode cX8_eachParcelIsOnce 169 = .ok (.ifCond .eq 7, 3) := by decide +kernel
theorem dX8_eachParcelIsOnce_172 : decode cX8_eachParcelIsOnce 172 = .ok (.iconst 1, 1) := by decide +kernel
theorem dX8_eachParcelIsOnce_173 : decode cX8_eachParcelIsOnce 173 = .ok (.goto 4, 3) := by decide +kernel
theorem dX8_eachParcelIsOnce_176 : decode cX8_eachParcelIsOnce 176 = .ok (.iconst 0, 1) := by decide +kernel
theorem dX8_eachParcelIsOnce_177 : decode cX8_eachParcelIsOnce 177 = .ok (.if_icmp .eq 5, 3) := by decide +kernel
theorem dX8_eachParcelIsOnce_180 : decode cX8_eachParcelIsOnce 180 = .ok (.iconst 0, 1) := by decide +kernel
theorem dX8_eachParcelIsOnce_181 : decode cX8_eachParcelIsOnce 181 = .ok (.ireturn, 1) := by decide +kernel
theorem dX8_eachParcelIsOnce_182 : decode cX8_eachParcelIsOnce 182 = .ok (.iinc 1 1, 3) := by decide +kernel
theorem dX8_eachParcelIsOnce_185 : decode cX8_eachParcelIsOnce 185 = .ok (.goto (-39), 3) := by decide +kernel
theorem dX8_eachParcelIsOnce_188 : decode cX8_eachParcelIsOnce 188 = .ok (.iconst 1, 1) := by decide +kernel
theorem dX8_eachParcelIsOnce_189 : decode cX8_eachParcelIsOnce 189 = .ok (.ireturn, 1) := by decide +kernel
theorem dX8_seeAll_0 : decode cX8_seeAll 0 = .ok (.iconst 0, 1) := by decide +kernel
theorem dX8_seeAll_1 : decode cX8_seeAll 1 = .ok (.istore_n 2, 1) := by decide +kernel
theorem dX8_seeAll_2 : decode cX8_seeAll 2 = .ok (.iload_n 2, 1) := by decide +kernel
theorem dX8_seeAll_3 : decode cX8_seeAll 3 = .ok (.aload_n 1, 1) := by decide +kernel
theorem dX8_seeAll_4 : decode cX8_seeAll 4 = .ok (.getfield 113, 3) := by decide +kernel
theorem dX8_seeAll_7 : decode cX8_seeAll 7 = .ok (.if_icmp .ge 18, 3) := by decide +kernel
theorem dX8_seeAll_10 : decode cX8_seeAll 10 = .ok (.aload_n 0, 1) := by decide +kernel
theorem dX8_seeAll_11 : decode cX8_seeAll 11 = .ok (.aload_n 1, 1) := by decide +kernel
theorem dX8_seeAll_12 : decode cX8_seeAll 12 = .ok (.iload_n 2, 1) := by decide +kernel
theorem dX8_seeAll_13 : decode cX8_seeAll 13 = .ok (.invokevirtual 223, 3) := by decide +kernel
theorem dX8_seeAll_16 : decode cX8_seeAll 16 = .ok (.invokevirtual 320, 3) := by decide +kernel
theorem dX8_seeAll_19 : decode cX8_seeAll 19 = .ok (.iinc 2 1, 3) := by decide +kernel
theorem dX8_seeAll_22 : decode cX8_seeAll 22 = .ok (.goto (-20), 3) := by decide +kernel
theorem dX8_seeAll_25 : decode cX8_seeAll 25 = .ok (.return_, 1) := by decide +kernel
theorem dX8_see_0 : decode cX8_see 0 = .ok (.iload_n 1, 1) := by decide +kernel
theorem dX8_see_1 : decode cX8_see 1 = .ok (.ifCond .lt 22, 3) := by decide +kernel
theorem dX8_see_4 : decode cX8_see 4 = .ok (.iload_n 1, 1) := by decide +kernel
theorem dX8_see_5 : decode cX8_see 5 = .ok (.aload_n 0, 1) := by decide +kernel
theorem dX8_see_6 : decode cX8_see 6 = .ok (.getfield 64, 3) := by decide +kernel
theorem dX8_see_9 : decode cX8_see 9 = .ok (.arraylength, 1) := by decide +kernel
theorem dX8_see_10 : decode cX8_see 10 = .ok (.if_icmp .ge 13, 3) := by decide +kernel
theorem dX8_see_13 : decode cX8_see 13 = .ok (.aload_n 0, 1) := by decide +kernel
theorem dX8_see_14 : decode cX8_see 14 = .ok (.getfield 64, 3) := by decide +kernel
theorem dX8_see_17 : decode cX8_see 17 = .ok (.iload_n 1, 1) := by decide +kernel
theorem dX8_see_18 : decode cX8_see 18 = .ok (.dup2, 1) := by decide +kernel
theorem dX8_see_19 : decode cX8_see 19 = .ok (.iaload, 1) := by decide +kernel
theorem dX8_see_20 : decode cX8_see 20 = .ok (.iconst 1, 1) := by decide +kernel
theorem dX8_see_21 : decode cX8_see 21 = .ok (.iadd, 1) := by decide +kernel
theorem dX8_see_22 : decode cX8_see 22 = .ok (.iastore, 1) := by decide +kernel
theorem dX8_see_23 : decode cX8_see 23 = .ok (.return_, 1) := by decide +kernel
theorem dX9_init_0 : decode cX9_init 0 = .ok (.aload_n 0, 1) := by decide +kernel
theorem dX9_init_1 : decode cX9_init 1 = .ok (.invokespecial 1, 3) := by decide +kernel
theorem dX9_init_4 : decode cX9_init 4 = .ok (.aload_n 0, 1) := by decide +kernel
theorem dX9_init_5 : decode cX9_init 5 = .ok (.bipush 12, 2) := by decide +kernel
theorem dX9_init_7 : decode cX9_init 7 = .ok (.putfield 7, 3) := by decide +kernel
theorem dX9_init_10 : decode cX9_init 10 = .ok (.aload_n 0, 1) := by decide +kernel
theorem dX9_init_11 : decode cX9_init 11 = .ok (.bipush 20, 2) := by decide +kernel
theorem dX9_init_13 : decode cX9_init 13 = .ok (.newarray .int, 2) := by decide +kernel
theorem dX9_init_15 : decode cX9_init 15 = .ok (.putfield 13, 3) := by decide +kernel
theorem dX9_init_18 : decode cX9_init 18 = .ok (.aload_n 0, 1) := by decide +kernel
theorem dX9_init_19 : decode cX9_init 19 = .ok (.bipush 6, 2) := by decide +kernel
theorem dX9_init_21 : decode cX9_init 21 = .ok (.newarray .int, 2) := by decide +kernel
theorem dX9_init_23 : decode cX9_init 23 = .ok (.putfield 17, 3) := by decide +kernel
theorem dX9_init_26 : decode cX9_init 26 = .ok (.aload_n 0, 1) := by decide +kernel
theorem dX9_init_27 : decode cX9_init 27 = .ok (.bipush 6, 2) := by decide +kernel
theorem dX9_init_29 : decode cX9_init 29 = .ok (.newarray .int, 2) := by decide +kernel
theorem dX9_init_31 : decode cX9_init 31 = .ok (.putfield 20, 3) := by decide +kernel
theorem dX9_init_34 : decode cX9_init 34 = .ok (.aload_n 0, 1) := by decide +kernel
theorem dX9_init_35 : decode cX9_init 35 = .ok (.bipush 6, 2) := by decide +kernel
theorem dX9_init_37 : decode cX9_init 37 = .ok (.newarray .boolean, 2) := by decide +kernel
theorem dX9_init_39 : decode cX9_init 39 = .ok (.putfield 23, 3) := by decide +kernel
theorem dX9_init_42 : decode cX9_init 42 = .ok (.aload_n 0, 1) := by decide +kernel
theorem dX9_init_43 : decode cX9_init 43 = .ok (.iconst 2, 1) := by decide +kernel
theorem dX9_init_44 : decode cX9_init 44 = .ok (.putfield 27, 3) := by decide +kernel
theorem dX9_init_47 : decode cX9_init 47 = .ok (.aload_n 0, 1) := by decide +kernel
theorem dX9_init_48 : decode cX9_init 48 = .ok (.sipush 300, 3) := by decide +kernel
theorem dX9_init_51 : decode cX9_init 51 = .ok (.newarray .int, 2) := by decide +kernel
theorem dX9_init_53 : decode cX9_init 53 = .ok (.putfield 30, 3) := by decide +kernel
theorem dX9_init_56 : decode cX9_init 56 = .ok (.aload_n 0, 1) := by decide +kernel
theorem dX9_init_57 : decode cX9_init 57 = .ok (.sipush 300, 3) := by decide +kernel
theorem dX9_init_60 : decode cX9_init 60 = .ok (.newarray .int, 2) := by decide +kernel
theorem dX9_init_62 : decode cX9_init 62 = .ok (.putfield 33, 3) := by decide +kernel
theorem dX9_init_65 : decode cX9_init 65 = .ok (.aload_n 0, 1) := by decide +kernel
theorem dX9_init_66 : decode cX9_init 66 = .ok (.sipush 300, 3) := by decide +kernel
theorem dX9_init_69 : decode cX9_init 69 = .ok (.newarray .int, 2) := by decide +kernel
theorem dX9_init_71 : decode cX9_init 71 = .ok (.putfield 36, 3) := by decide +kernel
theorem dX9_init_74 : decode cX9_init 74 = .ok (.aload_n 0, 1) := by decide +kernel
theorem dX9_init_75 : decode cX9_init 75 = .ok (.sipush 300, 3) := by decide +kernel
theorem dX9_init_78 : decode cX9_init 78 = .ok (.newarray .int, 2) := by decide +kernel
theorem dX9_init_80 : decode cX9_init 80 = .ok (.putfield 39, 3) := by decide +kernel
theorem dX9_init_83 : decode cX9_init 83 = .ok (.aload_n 0, 1) := by decide +kernel
theorem dX9_init_84 : decode cX9_init 84 = .ok (.bipush 8, 2) := by decide +kernel
theorem dX9_init_86 : decode cX9_init 86 = .ok (.newarray .int, 2) := by decide +kernel
theorem dX9_init_88 : decode cX9_init 88 = .ok (.putfield 42, 3) := by decide +kernel
theorem dX9_init_91 : decode cX9_init 91 = .ok (.aload_n 0, 1) := by decide +kernel
theorem dX9_init_92 : decode cX9_init 92 = .ok (.bipush 6, 2) := by decide +kernel
theorem dX9_init_94 : decode cX9_init 94 = .ok (.newarray .int, 2) := by decide +kernel
theorem dX9_init_96 : decode cX9_init 96 = .ok (.putfield 45, 3) := by decide +kernel
theorem dX9_init_99 : decode cX9_init 99 = .ok (.aload_n 0, 1) := by decide +kernel
theorem dX9_init_100 : decode cX9_init 100 = .ok (.sipush 180, 3) := by decide +kernel
theorem dX9_init_103 : decode cX9_init 103 = .ok (.newarray .int, 2) := by decide +kernel
theorem dX9_init_105 : decode cX9_init 105 = .ok (.putfield 48, 3) := by decide +kernel
theorem dX9_init_108 : decode cX9_init 108 = .ok (.aload_n 0, 1) := by decide +kernel
theorem dX9_init_109 : decode cX9_init 109 = .ok (.bipush 6, 2) := by decide +kernel
theorem dX9_init_111 : decode cX9_init 111 = .ok (.newarray .int, 2) := by decide +kernel
theorem dX9_init_113 : decode cX9_init 113 = .ok (.putfield 51, 3) := by decide +kernel
theorem dX9_init_116 : decode cX9_init 116 = .ok (.aload_n 0, 1) := by decide +kernel
theorem dX9_init_117 : decode cX9_init 117 = .ok (.bipush 6, 2) := by decide +kernel
theorem dX9_init_119 : decode cX9_init 119 = .ok (.newarray .int, 2) := by decide +kernel
theorem dX9_init_121 : decode cX9_init 121 = .ok (.putfield 54, 3) := by decide +kernel
theorem dX9_init_124 : decode cX9_init 124 = .ok (.aload_n 0, 1) := by decide +kernel
theorem dX9_init_125 : decode cX9_init 125 = .ok (.sipush 300, 3) := by decide +kernel
theorem dX9_init_128 : decode cX9_init 128 = .ok (.newarray .int, 2) := by decide +kernel
theorem dX9_init_130 : decode cX9_init 130 = .ok (.putfield 57, 3) := by decide +kernel
theorem dX9_init_133 : decode cX9_init 133 = .ok (.aload_n 0, 1) := by decide +kernel
theorem dX9_init_134 : decode cX9_init 134 = .ok (.sipush 300, 3) := by decide +kernel
theorem dX9_init_137 : decode cX9_init 137 = .ok (.newarray .int, 2) := by decide +kernel
theorem dX9_init_139 : decode cX9_init 139 = .ok (.putfield 60, 3) := by decide +kernel
theorem dX9_init_142 : decode cX9_init 142 = .ok (.aload_n 0, 1) := by decide +kernel
theorem dX9_init_143 : decode cX9_init 143 = .ok (.sipush 300, 3) := by decide +kernel
theorem dX9_init_146 : decode cX9_init 146 = .ok (.newarray .int, 2) := by decide +kernel
theorem dX9_init_148 : decode cX9_init 148 = .ok (.putfield 63, 3) := by decide +kernel
theorem dX9_init_151 : decode cX9_init 151 = .ok (.aload_n 0, 1) := by decide +kernel
theorem dX9_init_152 : decode cX9_init 152 = .ok (.bipush 20, 2) := by decide +kernel
theorem dX9_init_154 : decode cX9_init 154 = .ok (.newarray .int, 2) := by decide +kernel
theorem dX9_init_156 : decode cX9_init 156 = .ok (.putfield 66, 3) := by decide +kernel
theorem dX9_init_159 : decode cX9_init 159 = .ok (.aload_n 0, 1) := by decide +kernel
theorem dX9_init_160 : decode cX9_init 160 = .ok (.sipush 300, 3) := by decide +kernel
theorem dX9_init_163 : decode cX9_init 163 = .ok (.newarray .int, 2) := by decide +kernel
theorem dX9_init_165 : decode cX9_init 165 = .ok (.putfield 69, 3) := by decide +kernel
theorem dX9_init_168 : decode cX9_init 168 = .ok (.aload_n 0, 1) := by decide +kernel
theorem dX9_init_169 : decode cX9_init 169 = .ok (.bipush 6, 2) := by decide +kernel
theorem dX9_init_171 : decode cX9_init 171 = .ok (.newarray .int, 2) := by decide +kernel
theorem dX9_init_173 : decode cX9_init 173 = .ok (.putfield 72, 3) := by decide +kernel
theorem dX9_init_176 : decode cX9_init 176 = .ok (.aload_n 0, 1) := by decide +kernel
theorem dX9_init_177 : decode cX9_init 177 = .ok (.bipush 6, 2) := by decide +kernel
theorem dX9_init_179 : decode cX9_init 179 = .ok (.newarray .int, 2) := by decide +kernel
theorem dX9_init_181 : decode cX9_init 181 = .ok (.putfield 75, 3) := by decide +kernel
theorem dX9_init_184 : decode cX9_init 184 = .ok (.aload_n 0, 1) := by decide +kernel
theorem dX9_init_185 : decode cX9_init 185 = .ok (.bipush 8, 2) := by decide +kernel
theorem dX9_init_187 : decode cX9_init 187 = .ok (.newarray .int, 2) := by decide +kernel
theorem dX9_init_189 : decode cX9_init 189 = .ok (.putfield 78, 3) := by decide +kernel
theorem dX9_init_192 : decode cX9_init 192 = .ok (.iconst 0, 1) := by decide +kernel
theorem dX9_init_193 : decode cX9_init 193 = .ok (.istore_n 1, 1) := by decide +kernel
theorem dX9_init_194 : decode cX9_init 194 = .ok (.iload_n 1, 1) := by decide +kernel
theorem dX9_init_195 : decode cX9_init 195 = .ok (.bipush 20, 2) := by decide +kernel
theorem dX9_init_197 : decode cX9_init 197 = .ok (.if_icmp .ge 16, 3) := by decide +kernel
theorem dX9_init_200 : decode cX9_init 200 = .ok (.aload_n 0, 1) := by decide +kernel
theorem dX9_init_201 : decode cX9_init 201 = .ok (.getfield 13, 3) := by decide +kernel
theorem dX9_init_204 : decode cX9_init 204 = .ok (.iload_n 1, 1) := by decide +kernel
theorem dX9_init_205 : decode cX9_init 205 = .ok (.iconst (-1), 1) := by decide +kernel
theorem dX9_init_206 : decode cX9_init 206 = .ok (.iastore, 1) := by decide +kernel
theorem dX9_init_207 : decode cX9_init 207 = .ok (.iinc 1 1, 3) := by decide +kernel
theorem dX9_init_210 : decode cX9_init 210 = .ok (.goto (-16), 3) := by decide +kernel
theorem dX9_init_213 : decode cX9_init 213 = .ok (.iconst 0, 1) := by decide +kernel
theorem dX9_init_214 : decode cX9_init 214 = .ok (.istore_n 1, 1) := by decide +kernel
theorem dX9_init_215 : decode cX9_init 215 = .ok (.iload_n 1, 1) := by decide +kernel
theorem dX9_init_216 : decode cX9_init 216 = .ok (.bipush 8, 2) := by decide +kernel
theorem dX9_init_218 : decode cX9_init 218 = .ok (.if_icmp .ge 16, 3) := by decide +kernel
theorem dX9_init_221 : decode cX9_init 221 = .ok (.aload_n 0, 1) := by decide +kernel
theorem dX9_init_222 : decode cX9_init 222 = .ok (.getfield 42, 3) := by decide +kernel
theorem dX9_init_225 : decode cX9_init 225 = .ok (.iload_n 1, 1) := by decide +kernel
theorem dX9_init_226 : decode cX9_init 226 = .ok (.iconst (-1), 1) := by decide +kernel
theorem dX9_init_227 : decode cX9_init 227 = .ok (.iastore, 1) := by decide +kernel
theorem dX9_init_228 : decode cX9_init 228 = .ok (.iinc 1 1, 3) := by decide +kernel
theorem dX9_init_231 : decode cX9_init 231 = .ok (.goto (-16), 3) := by decide +kernel
theorem dX9_init_234 : decode cX9_init 234 = .ok (.return_, 1) := by decide +kernel
theorem dX9_thrown_0 : decode cX9_thrown 0 = .ok (.aload_n 0, 1) := by decide +kernel
theorem dX9_thrown_1 : decode cX9_thrown 1 = .ok (.getfield 81, 3) := by decide +kernel
theorem dX9_thrown_4 : decode cX9_thrown 4 = .ok (.ireturn, 1) := by decide +kernel
theorem dX9_isIn_0 : decode cX9_isIn 0 = .ok (.iload_n 0, 1) := by decide +kernel
theorem dX9_isIn_1 : decode cX9_isIn 1 = .ok (.iload_n 1, 1) := by decide +kernel
theorem dX9_isIn_2 : decode cX9_isIn 2 = .ok (.if_icmp .lt 12, 3) := by decide +kernel
theorem dX9_isIn_5 : decode cX9_isIn 5 = .ok (.iload_n 0, 1) := by decide +kernel
theorem dX9_isIn_6 : decode cX9_isIn 6 = .ok (.iload_n 2, 1) := by decide +kernel
theorem dX9_isIn_7 : decode cX9_isIn 7 = .ok (.if_icmp .gt 7, 3) := by decide +kernel
theorem dX9_isIn_10 : decode cX9_isIn 10 = .ok (.iconst 1, 1) := by decide +kernel
theorem dX9_isIn_11 : decode cX9_isIn 11 = .ok (.goto 4, 3) := by decide +kernel
theorem dX9_isIn_14 : decode cX9_isIn 14 = .ok (.iconst 0, 1) := by decide +kernel
theorem dX9_isIn_15 : decode cX9_isIn 15 = .ok (.ireturn, 1) := by decide +kernel
theorem dX9_goesOn_0 : decode cX9_goesOn 0 = .ok (.aload_n 0, 1) := by decide +kernel
theorem dX9_goesOn_1 : decode cX9_goesOn 1 = .ok (.iload_n 1, 1) := by decide +kernel
theorem dX9_goesOn_2 : decode cX9_goesOn 2 = .ok (.putfield 81, 3) := by decide +kernel
theorem dX9_goesOn_5 : decode cX9_goesOn 5 = .ok (.iload_n 1, 1) := by decide +kernel
theorem dX9_goesOn_6 : decode cX9_goesOn 6 = .ok (.ifCond .ne 7, 3) := by decide +kernel
theorem dX9_goesOn_9 : decode cX9_goesOn 9 = .ok (.iconst 1, 1) := by decide +kernel
theorem dX9_goesOn_10 : decode cX9_goesOn 10 = .ok (.goto 4, 3) := by decide +kernel
theorem dX9_goesOn_13 : decode cX9_goesOn 13 = .ok (.iconst 0, 1) := by decide +kernel
theorem dX9_goesOn_14 : decode cX9_goesOn 14 = .ok (.ireturn, 1) := by decide +kernel
theorem dX9_isChute_0 : decode cX9_isChute 0 = .ok (.iload_n 1, 1) := by decide +kernel
theorem dX9_isChute_1 : decode cX9_isChute 1 = .ok (.iconst 0, 1) := by decide +kernel
theorem dX9_isChute_2 : decode cX9_isChute 2 = .ok (.aload_n 0, 1) := by decide +kernel
theorem dX9_isChute_3 : decode cX9_isChute 3 = .ok (.getfield 84, 3) := by decide +kernel
theorem dX9_isChute_6 : decode cX9_isChute 6 = .ok (.iconst 1, 1) := by decide +kernel
theorem dX9_isChute_7 : decode cX9_isChute 7 = .ok (.isub, 1) := by decide +kernel
theorem dX9_isChute_8 : decode cX9_isChute 8 = .ok (.invokestatic 87, 3) := by decide +kernel
theorem dX9_isChute_11 : decode cX9_isChute 11 = .ok (.ireturn, 1) := by decide +kernel
theorem dX9_isParcel_0 : decode cX9_isParcel 0 = .ok (.iload_n 1, 1) := by decide +kernel
theorem dX9_isParcel_1 : decode cX9_isParcel 1 = .ok (.iconst 0, 1) := by decide +kernel
theorem dX9_isParcel_2 : decode cX9_isParcel 2 = .ok (.aload_n 0, 1) := by decide +kernel
theorem dX9_isParcel_3 : decode cX9_isParcel 3 = .ok (.getfield 91, 3) := by decide +kernel
theorem dX9_isParcel_6 : decode cX9_isParcel 6 = .ok (.iconst 1, 1) := by decide +kernel
theorem dX9_isParcel_7 : decode cX9_isParcel 7 = .ok (.isub, 1) := by decide +kernel
theorem dX9_isParcel_8 : decode cX9_isParcel 8 = .ok (.invokestatic 87, 3) := by decide +kernel
theorem dX9_isParcel_11 : decode cX9_isParcel 11 = .ok (.ireturn, 1) := by decide +kernel
theorem dX9_isPosition_0 : decode cX9_isPosition 0 = .ok (.iload_n 1, 1) := by decide +kernel
theorem dX9_isPosition_1 : decode cX9_isPosition 1 = .ok (.iconst 0, 1) := by decide +kernel
theorem dX9_isPosition_2 : decode cX9_isPosition 2 = .ok (.aload_n 0, 1) := by decide +kernel
theorem dX9_isPosition_3 : decode cX9_isPosition 3 = .ok (.getfield 7, 3) := by decide +kernel
theorem dX9_isPosition_6 : decode cX9_isPosition 6 = .ok (.iconst 1, 1) := by decide +kernel
theorem dX9_isPosition_7 : decode cX9_isPosition 7 = .ok (.isub, 1) := by decide +kernel
theorem dX9_isPosition_8 : decode cX9_isPosition 8 = .ok (.invokestatic 87, 3) := by decide +kernel
theorem dX9_isPosition_11 : decode cX9_isPosition 11 = .ok (.ireturn, 1) := by decide +kernel
theorem dX9_chuteAt_0 : decode cX9_chuteAt 0 = .ok (.iconst 0, 1) := by decide +kernel
theorem dX9_chuteAt_1 : decode cX9_chuteAt 1 = .ok (.istore_n 2, 1) := by decide +kernel
theorem dX9_chuteAt_2 : decode cX9_chuteAt 2 = .ok (.iload_n 2, 1) := by decide +kernel
theorem dX9_chuteAt_3 : decode cX9_chuteAt 3 = .ok (.aload_n 0, 1) := by decide +kernel
theorem dX9_chuteAt_4 : decode cX9_chuteAt 4 = .ok (.getfield 84, 3) := by decide +kernel
theorem dX9_chuteAt_7 : decode cX9_chuteAt 7 = .ok (.if_icmp .ge 21, 3) := by decide +kernel
theorem dX9_chuteAt_10 : decode cX9_chuteAt 10 = .ok (.aload_n 0, 1) := by decide +kernel
theorem dX9_chuteAt_11 : decode cX9_chuteAt 11 = .ok (.getfield 17, 3) := by decide +kernel
theorem dX9_chuteAt_14 : decode cX9_chuteAt 14 = .ok (.iload_n 2, 1) := by decide +kernel
theorem dX9_chuteAt_15 : decode cX9_chuteAt 15 = .ok (.iaload, 1) := by decide +kernel
theorem dX9_chuteAt_16 : decode cX9_chuteAt 16 = .ok (.iload_n 1, 1) := by decide +kernel
theorem dX9_chuteAt_17 : decode cX9_chuteAt 17 = .ok (.if_icmp .ne 5, 3) := by decide +kernel
theorem dX9_chuteAt_20 : decode cX9_chuteAt 20 = .ok (.iload_n 2, 1) := by decide +kernel
theorem dX9_chuteAt_21 : decode cX9_chuteAt 21 = .ok (.ireturn, 1) := by decide +kernel
theorem dX9_chuteAt_22 : decode cX9_chuteAt 22 = .ok (.iinc 2 1, 3) := by decide +kernel
theorem dX9_chuteAt_25 : decode cX9_chuteAt 25 = .ok (.goto (-23), 3) := by decide +kernel
theorem dX9_chuteAt_28 : decode cX9_chuteAt 28 = .ok (.iconst (-1), 1) := by decide +kernel
theorem dX9_chuteAt_29 : decode cX9_chuteAt 29 = .ok (.ireturn, 1) := by decide +kernel
theorem dX9_setLoop_0 : decode cX9_setLoop 0 = .ok (.aload_n 0, 1) := by decide +kernel
theorem dX9_setLoop_1 : decode cX9_setLoop 1 = .ok (.iload_n 1, 1) := by decide +kernel
theorem dX9_setLoop_2 : decode cX9_setLoop 2 = .ok (.iconst 4, 1) := by decide +kernel
theorem dX9_setLoop_3 : decode cX9_setLoop 3 = .ok (.bipush 20, 2) := by decide +kernel
theorem dX9_setLoop_5 : decode cX9_setLoop 5 = .ok (.invokestatic 87, 3) := by decide +kernel
theorem dX9_setLoop_8 : decode cX9_setLoop 8 = .ok (.ifCond .ne 7, 3) := by decide +kernel
theorem dX9_setLoop_11 : decode cX9_setLoop 11 = .ok (.iconst 1, 1) := by decide +kernel
theorem dX9_setLoop_12 : decode cX9_setLoop 12 = .ok (.goto 22, 3) := by decide +kernel
theorem dX9_setLoop_15 : decode cX9_setLoop 15 = .ok (.aload_n 0, 1) := by decide +kernel
theorem dX9_setLoop_16 : decode cX9_setLoop 16 = .ok (.getfield 84, 3) := by decide +kernel
theorem dX9_setLoop_19 : decode cX9_setLoop 19 = .ok (.ifCond .gt 10, 3) := by decide +kernel
theorem dX9_setLoop_22 : decode cX9_setLoop 22 = .ok (.aload_n 0, 1) := by decide +kernel
theorem dX9_setLoop_23 : decode cX9_setLoop 23 = .ok (.getfield 91, 3) := by decide +kernel
theorem dX9_setLoop_26 : decode cX9_setLoop 26 = .ok (.ifCond .le 7, 3) := by decide +kernel
theorem dX9_setLoop_29 : decode cX9_setLoop 29 = .ok (.iconst 2, 1) := by decide +kernel
theorem dX9_setLoop_30 : decode cX9_setLoop 30 = .ok (.goto 4, 3) := by decide +kernel
theorem dX9_setLoop_33 : decode cX9_setLoop 33 = .ok (.iconst 0, 1) := by decide +kernel
theorem dX9_setLoop_34 : decode cX9_setLoop 34 = .ok (.invokevirtual 94, 3) := by decide +kernel
theorem dX9_setLoop_37 : decode cX9_setLoop 37 = .ok (.ifCond .ne 5, 3) := by decide +kernel
theorem dX9_setLoop_40 : decode cX9_setLoop 40 = .ok (.iconst 0, 1) := by decide +kernel
theorem dX9_setLoop_41 : decode cX9_setLoop 41 = .ok (.ireturn, 1) := by decide +kernel
theorem dX9_setLoop_42 : decode cX9_setLoop 42 = .ok (.aload_n 0, 1) := by decide +kernel
theorem dX9_setLoop_43 : decode cX9_setLoop 43 = .ok (.getfield 7, 3) := by decide +kernel
theorem dX9_setLoop_46 : decode cX9_setLoop 46 = .ok (.istore_n 2, 1) := by decide +kernel
theorem dX9_setLoop_47 : decode cX9_setLoop 47 = .ok (.aload_n 0, 1) := by decide +kernel
theorem dX9_setLoop_48 : decode cX9_setLoop 48 = .ok (.iload_n 1, 1) := by decide +kernel
theorem dX9_setLoop_49 : decode cX9_setLoop 49 = .ok (.putfield 7, 3) := by decide +kernel
theorem dX9_setLoop_52 : decode cX9_setLoop 52 = .ok (.iload_n 2, 1) := by decide +kernel
theorem dX9_setLoop_53 : decode cX9_setLoop 53 = .ok (.ireturn, 1) := by decide +kernel
theorem dX9_addChute_0 : decode cX9_addChute 0 = .ok (.iload_n 1, 1) := by decide +kernel
theorem dX9_addChute_1 : decode cX9_addChute 1 = .ok (.iconst 1, 1) := by decide +kernel
theorem dX9_addChute_2 : decode cX9_addChute 2 = .ok (.aload_n 0, 1) := by decide +kernel
theorem dX9_addChute_3 : decode cX9_addChute 3 = .ok (.getfield 7, 3) := by decide +kernel
theorem dX9_addChute_6 : decode cX9_addChute 6 = .ok (.iconst 2, 1) := by decide +kernel
theorem dX9_addChute_7 : decode cX9_addChute 7 = .ok (.isub, 1) := by decide +kernel
theorem dX9_addChute_8 : decode cX9_addChute 8 = .ok (.invokestatic 87, 3) := by decide +kernel
theorem dX9_addChute_11 : decode cX9_addChute 11 = .ok (.ifCond .eq 13, 3) := by decide +kernel
theorem dX9_addChute_14 : decode cX9_addChute 14 = .ok (.iload_n 2, 1) := by decide +kernel
theorem dX9_addChute_15 : decode cX9_addChute 15 = .ok (.iconst 1, 1) := by decide +kernel
theorem dX9_addChute_16 : decode cX9_addChute 16 = .ok (.bipush 30, 2) := by decide +kernel
theorem dX9_addChute_18 : decode cX9_addChute 18 = .ok (.invokestatic 87, 3) := by decide +kernel
theorem dX9_addChute_21 : decode cX9_addChute 21 = .ok (.ifCond .ne 7, 3) := by decide +kernel
theorem dX9_addChute_24 : decode cX9_addChute 24 = .ok (.iconst 1, 1) := by decide +kernel
theorem dX9_addChute_25 : decode cX9_addChute 25 = .ok (.goto 30, 3) := by decide +kernel
theorem dX9_addChute_28 : decode cX9_addChute 28 = .ok (.aload_n 0, 1) := by decide +kernel
theorem dX9_addChute_29 : decode cX9_addChute 29 = .ok (.iload_n 1, 1) := by decide +kernel
theorem dX9_addChute_30 : decode cX9_addChute 30 = .ok (.invokevirtual 98, 3) := by decide +kernel
theorem dX9_addChute_33 : decode cX9_addChute 33 = .ok (.iconst (-1), 1) := by decide +kernel
theorem dX9_addChute_34 : decode cX9_addChute 34 = .ok (.if_icmp .eq 7, 3) := by decide +kernel
theorem dX9_addChute_37 : decode cX9_addChute 37 = .ok (.iconst 2, 1) := by decide +kernel
theorem dX9_addChute_38 : decode cX9_addChute 38 = .ok (.goto 17, 3) := by decide +kernel
theorem dX9_addChute_41 : decode cX9_addChute 41 = .ok (.aload_n 0, 1) := by decide +kernel
theorem dX9_addChute_42 : decode cX9_addChute 42 = .ok (.getfield 84, 3) := by decide +kernel
theorem dX9_addChute_45 : decode cX9_addChute 45 = .ok (.bipush 6, 2) := by decide +kernel
theorem dX9_addChute_47 : decode cX9_addChute 47 = .ok (.if_icmp .ne 7, 3) := by decide +kernel
theorem dX9_addChute_50 : decode cX9_addChute 50 = .ok (.iconst 3, 1) := by decide +kernel
theorem dX9_addChute_51 : decode cX9_addChute 51 = .ok (.goto 4, 3) := by decide +kernel
theorem dX9_addChute_54 : decode cX9_addChute 54 = .ok (.iconst 0, 1) := by decide +kernel
theorem dX9_addChute_55 : decode cX9_addChute 55 = .ok (.istore_n 3, 1) := by decide +kernel
theorem dX9_addChute_56 : decode cX9_addChute 56 = .ok (.aload_n 0, 1) := by decide +kernel
theorem dX9_addChute_57 : decode cX9_addChute 57 = .ok (.iload_n 3, 1) := by decide +kernel
theorem dX9_addChute_58 : decode cX9_addChute 58 = .ok (.invokevirtual 94, 3) := by decide +kernel
theorem dX9_addChute_61 : decode cX9_addChute 61 = .ok (.ifCond .ne 5, 3) := by decide +kernel
theorem dX9_addChute_64 : decode cX9_addChute 64 = .ok (.iconst 0, 1) := by decide +kernel
theorem dX9_addChute_65 : decode cX9_addChute 65 = .ok (.ireturn, 1) := by decide +kernel
theorem dX9_addChute_66 : decode cX9_addChute 66 = .ok (.aload_n 0, 1) := by decide +kernel
theorem dX9_addChute_67 : decode cX9_addChute 67 = .ok (.getfield 17, 3) := by decide +kernel
theorem dX9_addChute_70 : decode cX9_addChute 70 = .ok (.aload_n 0, 1) := by decide +kernel
theorem dX9_addChute_71 : decode cX9_addChute 71 = .ok (.getfield 84, 3) := by decide +kernel
theorem dX9_addChute_74 : decode cX9_addChute 74 = .ok (.iload_n 1, 1) := by decide +kernel
theorem dX9_addChute_75 : decode cX9_addChute 75 = .ok (.iastore, 1) := by decide +kernel
theorem dX9_addChute_76 : decode cX9_addChute 76 = .ok (.aload_n 0, 1) := by decide +kernel
theorem dX9_addChute_77 : decode cX9_addChute 77 = .ok (.getfield 20, 3) := by decide +kernel
theorem dX9_addChute_80 : decode cX9_addChute 80 = .ok (.aload_n 0, 1) := by decide +kernel
theorem dX9_addChute_81 : decode cX9_addChute 81 = .ok (.getfield 84, 3) := by decide +kernel
theorem dX9_addChute_84 : decode cX9_addChute 84 = .ok (.iload_n 2, 1) := by decide +kernel
theorem dX9_addChute_85 : decode cX9_addChute 85 = .ok (.iastore, 1) := by decide +kernel
theorem dX9_addChute_86 : decode cX9_addChute 86 = .ok (.aload_n 0, 1) := by decide +kernel
theorem dX9_addChute_87 : decode cX9_addChute 87 = .ok (.dup, 1) := by decide +kernel
theorem dX9_addChute_88 : decode cX9_addChute 88 = .ok (.getfield 84, 3) := by decide +kernel
theorem dX9_addChute_91 : decode cX9_addChute 91 = .ok (.iconst 1, 1) := by decide +kernel
theorem dX9_addChute_92 : decode cX9_addChute 92 = .ok (.iadd, 1) := by decide +kernel
theorem dX9_addChute_93 : decode cX9_addChute 93 = .ok (.putfield 84, 3) := by decide +kernel
theorem dX9_addChute_96 : decode cX9_addChute 96 = .ok (.aload_n 0, 1) := by decide +kernel
theorem dX9_addChute_97 : decode cX9_addChute 97 = .ok (.getfield 84, 3) := by decide +kernel
theorem dX9_addChute_100 : decode cX9_addChute 100 = .ok (.iconst 1, 1) := by decide +kernel
theorem dX9_addChute_101 : decode cX9_addChute 101 = .ok (.isub, 1) := by decide +kernel
theorem dX9_addChute_102 : decode cX9_addChute 102 = .ok (.ireturn, 1) := by decide +kernel
theorem dX9_setCapacity_0 : decode cX9_setCapacity 0 = .ok (.aload_n 0, 1) := by decide +kernel
theorem dX9_setCapacity_1 : decode cX9_setCapacity 1 = .ok (.iload_n 1, 1) := by decide +kernel
theorem dX9_setCapacity_2 : decode cX9_setCapacity 2 = .ok (.invokevirtual 102, 3) := by decide +kernel
theorem dX9_setCapacity_5 : decode cX9_setCapacity 5 = .ok (.ifCond .ne 7, 3) := by decide +kernel
theorem dX9_setCapacity_8 : decode cX9_setCapacity 8 = .ok (.iconst 1, 1) := by decide +kernel
theorem dX9_setCapacity_9 : decode cX9_setCapacity 9 = .ok (.goto 32, 3) := by decide +kernel
theorem dX9_setCapacity_12 : decode cX9_setCapacity 12 = .ok (.iload_n 2, 1) := by decide +kernel
theorem dX9_setCapacity_13 : decode cX9_setCapacity 13 = .ok (.iconst 1, 1) := by decide +kernel
theorem dX9_setCapacity_14 : decode cX9_setCapacity 14 = .ok (.bipush 30, 2) := by decide +kernel
theorem dX9_setCapacity_16 : decode cX9_setCapacity 16 = .ok (.invokestatic 87, 3) := by decide +kernel
theorem dX9_setCapacity_19 : decode cX9_setCapacity 19 = .ok (.ifCond .ne 7, 3) := by decide +kernel
theorem dX9_setCapacity_22 : decode cX9_setCapacity 22 = .ok (.iconst 2, 1) := by decide +kernel
theorem dX9_setCapacity_23 : decode cX9_setCapacity 23 = .ok (.goto 18, 3) := by decide +kernel
theorem dX9_setCapacity_26 : decode cX9_setCapacity 26 = .ok (.aload_n 0, 1) := by decide +kernel
theorem dX9_setCapacity_27 : decode cX9_setCapacity 27 = .ok (.getfield 45, 3) := by decide +kernel
theorem dX9_setCapacity_30 : decode cX9_setCapacity 30 = .ok (.iload_n 1, 1) := by decide +kernel
theorem dX9_setCapacity_31 : decode cX9_setCapacity 31 = .ok (.iaload, 1) := by decide +kernel
theorem dX9_setCapacity_32 : decode cX9_setCapacity 32 = .ok (.iload_n 2, 1) := by decide +kernel
theorem dX9_setCapacity_33 : decode cX9_setCapacity 33 = .ok (.if_icmp .le 7, 3) := by decide +kernel
theorem dX9_setCapacity_36 : decode cX9_setCapacity 36 = .ok (.iconst 3, 1) := by decide +kernel
theorem dX9_setCapacity_37 : decode cX9_setCapacity 37 = .ok (.goto 4, 3) := by decide +kernel
theorem dX9_setCapacity_40 : decode cX9_setCapacity 40 = .ok (.iconst 0, 1) := by decide +kernel
theorem dX9_setCapacity_41 : decode cX9_setCapacity 41 = .ok (.istore_n 3, 1) := by decide +kernel
theorem dX9_setCapacity_42 : decode cX9_setCapacity 42 = .ok (.aload_n 0, 1) := by decide +kernel
theorem dX9_setCapacity_43 : decode cX9_setCapacity 43 = .ok (.iload_n 3, 1) := by decide +kernel
theorem dX9_setCapacity_44 : decode cX9_setCapacity 44 = .ok (.invokevirtual 94, 3) := by decide +kernel
theorem dX9_setCapacity_47 : decode cX9_setCapacity 47 = .ok (.ifCond .ne 5, 3) := by decide +kernel
theorem dX9_setCapacity_50 : decode cX9_setCapacity 50 = .ok (.iconst 0, 1) := by decide +kernel
theorem dX9_setCapacity_51 : decode cX9_setCapacity 51 = .ok (.ireturn, 1) := by decide +kernel
theorem dX9_setCapacity_52 : decode cX9_setCapacity 52 = .ok (.aload_n 0, 1) := by decide +kernel
theorem dX9_setCapacity_53 : decode cX9_setCapacity 53 = .ok (.getfield 20, 3) := by decide +kernel
theorem dX9_setCapacity_56 : decode cX9_setCapacity 56 = .ok (.iload_n 1, 1) := by decide +kernel
theorem dX9_setCapacity_57 : decode cX9_setCapacity 57 = .ok (.iaload, 1) := by decide +kernel
theorem dX9_setCapacity_58 : decode cX9_setCapacity 58 = .ok (.istore 4, 2) := by decide +kernel
theorem dX9_setCapacity_60 : decode cX9_setCapacity 60 = .ok (.aload_n 0, 1) := by decide +kernel
theorem dX9_setCapacity_61 : decode cX9_setCapacity 61 = .ok (.getfield 20, 3) := by decide +kernel
theorem dX9_setCapacity_64 : decode cX9_setCapacity 64 = .ok (.iload_n 1, 1) := by decide +kernel
theorem dX9_setCapacity_65 : decode cX9_setCapacity 65 = .ok (.iload_n 2, 1) := by decide +kernel
theorem dX9_setCapacity_66 : decode cX9_setCapacity 66 = .ok (.iastore, 1) := by decide +kernel
theorem dX9_setCapacity_67 : decode cX9_setCapacity 67 = .ok (.iload 4, 2) := by decide +kernel
theorem dX9_setCapacity_69 : decode cX9_setCapacity 69 = .ok (.ireturn, 1) := by decide +kernel
theorem dX9_setLimit_0 : decode cX9_setLimit 0 = .ok (.aload_n 0, 1) := by decide +kernel
theorem dX9_setLimit_1 : decode cX9_setLimit 1 = .ok (.getfield 27, 3) := by decide +kernel
theorem dX9_setLimit_4 : decode cX9_setLimit 4 = .ok (.istore_n 2, 1) := by decide +kernel
theorem dX9_setLimit_5 : decode cX9_setLimit 5 = .ok (.aload_n 0, 1) := by decide +kernel
theorem dX9_setLimit_6 : decode cX9_setLimit 6 = .ok (.aload_n 0, 1) := by decide +kernel
theorem dX9_setLimit_7 : decode cX9_setLimit 7 = .ok (.iload_n 1, 1) := by decide +kernel
theorem dX9_setLimit_8 : decode cX9_setLimit 8 = .ok (.iconst 1, 1) := by decide +kernel
theorem dX9_setLimit_9 : decode cX9_setLimit 9 = .ok (.bipush 9, 2) := by decide +kernel
theorem dX9_setLimit_11 : decode cX9_setLimit 11 = .ok (.invokestatic 87, 3) := by decide +kernel
theorem dX9_setLimit_14 : decode cX9_setLimit 14 = .ok (.ifCond .eq 7, 3) := by decide +kernel
theorem dX9_setLimit_17 : decode cX9_setLimit 17 = .ok (.iconst 0, 1) := by decide +kernel
theorem dX9_setLimit_18 : decode cX9_setLimit 18 = .ok (.goto 4, 3) := by decide +kernel
theorem dX9_setLimit_21 : decode cX9_setLimit 21 = .ok (.iconst 1, 1) := by decide +kernel
theorem dX9_setLimit_22 : decode cX9_setLimit 22 = .ok (.invokevirtual 94, 3) := by decide +kernel
theorem dX9_setLimit_25 : decode cX9_setLimit 25 = .ok (.ifCond .eq 7, 3) := by decide +kernel
theorem dX9_setLimit_28 : decode cX9_setLimit 28 = .ok (.iload_n 1, 1) := by decide +kernel
theorem dX9_setLimit_29 : decode cX9_setLimit 29 = .ok (.goto 7, 3) := by decide +kernel
theorem dX9_setLimit_32 : decode cX9_setLimit 32 = .ok (.aload_n 0, 1) := by decide +kernel
theorem dX9_setLimit_33 : decode cX9_setLimit 33 = .ok (.getfield 27, 3) := by decide +kernel
theorem dX9_setLimit_36 : decode cX9_setLimit 36 = .ok (.putfield 27, 3) := by decide +kernel
theorem dX9_setLimit_39 : decode cX9_setLimit 39 = .ok (.iload_n 2, 1) := by decide +kernel
theorem dX9_setLimit_40 : decode cX9_setLimit 40 = .ok (.ireturn, 1) := by decide +kernel
theorem dX9_isStation_0 : decode cX9_isStation 0 = .ok (.iload_n 1, 1) := by decide +kernel
theorem dX9_isStation_1 : decode cX9_isStation 1 = .ok (.ifCond .eq 22, 3) := by decide +kernel
theorem dX9_isStation_4 : decode cX9_isStation 4 = .ok (.iload_n 1, 1) := by decide +kernel
theorem dX9_isStation_5 : decode cX9_isStation 5 = .ok (.aload_n 0, 1) := by decide +kernel
theorem dX9_isStation_6 : decode cX9_isStation 6 = .ok (.getfield 7, 3) := by decide +kernel
theorem dX9_isStation_9 : decode cX9_isStation 9 = .ok (.iconst 1, 1) := by decide +kernel
theorem dX9_isStation_10 : decode cX9_isStation 10 = .ok (.isub, 1) := by decide +kernel
theorem dX9_isStation_11 : decode cX9_isStation 11 = .ok (.if_icmp .eq 12, 3) := by decide +kernel
theorem dX9_isStation_14 : decode cX9_isStation 14 = .ok (.aload_n 0, 1) := by decide +kernel
theorem dX9_isStation_15 : decode cX9_isStation 15 = .ok (.iload_n 1, 1) := by decide +kernel
theorem dX9_isStation_16 : decode cX9_isStation 16 = .ok (.invokevirtual 98, 3) := by decide +kernel
theorem dX9_isStation_19 : decode cX9_isStation 19 = .ok (.iconst (-1), 1) := by decide +kernel
theorem dX9_isStation_20 : decode cX9_isStation 20 = .ok (.if_icmp .eq 7, 3) := by decide +kernel
theorem dX9_isStation_23 : decode cX9_isStation 23 = .ok (.iconst 1, 1) := by decide +kernel
theorem dX9_isStation_24 : decode cX9_isStation 24 = .ok (.goto 4, 3) := by decide +kernel
theorem dX9_isStation_27 : decode cX9_isStation 27 = .ok (.iconst 0, 1) := by decide +kernel
theorem dX9_isStation_28 : decode cX9_isStation 28 = .ok (.ireturn, 1) := by decide +kernel
theorem dX9_isJammedAt_0 : decode cX9_isJammedAt 0 = .ok (.iload_n 1, 1) := by decide +kernel
theorem dX9_isJammedAt_1 : decode cX9_isJammedAt 1 = .ok (.ifCond .ne 10, 3) := by decide +kernel
theorem dX9_isJammedAt_4 : decode cX9_isJammedAt 4 = .ok (.aload_n 0, 1) := by decide +kernel
theorem dX9_isJammedAt_5 : decode cX9_isJammedAt 5 = .ok (.getfield 105, 3) := by decide +kernel
theorem dX9_isJammedAt_8 : decode cX9_isJammedAt 8 = .ok (.goto 30, 3) := by decide +kernel
theorem dX9_isJammedAt_11 : decode cX9_isJammedAt 11 = .ok (.iload_n 1, 1) := by decide +kernel
theorem dX9_isJammedAt_12 : decode cX9_isJammedAt 12 = .ok (.aload_n 0, 1) := by decide +kernel
theorem dX9_isJammedAt_13 : decode cX9_isJammedAt 13 = .ok (.getfield 7, 3) := by decide +kernel
theorem dX9_isJammedAt_16 : decode cX9_isJammedAt 16 = .ok (.iconst 1, 1) := by decide +kernel
theorem dX9_isJammedAt_17 : decode cX9_isJammedAt 17 = .ok (.isub, 1) := by decide +kernel
theorem dX9_isJammedAt_18 : decode cX9_isJammedAt 18 = .ok (.if_icmp .ne 10, 3) := by decide +kernel
theorem dX9_isJammedAt_21 : decode cX9_isJammedAt 21 = .ok (.aload_n 0, 1) := by decide +kernel
theorem dX9_isJammedAt_22 : decode cX9_isJammedAt 22 = .ok (.getfield 109, 3) := by decide +kernel
theorem dX9_isJammedAt_25 : decode cX9_isJammedAt 25 = .ok (.goto 13, 3) := by decide +kernel
theorem dX9_isJammedAt_28 : decode cX9_isJammedAt 28 = .ok (.aload_n 0, 1) := by decide +kernel
theorem dX9_isJammedAt_29 : decode cX9_isJammedAt 29 = .ok (.getfield 23, 3) := by decide +kernel
theorem dX9_isJammedAt_32 : decode cX9_isJammedAt 32 = .ok (.aload_n 0, 1) := by decide +kernel
theorem dX9_isJammedAt_33 : decode cX9_isJammedAt 33 = .ok (.iload_n 1, 1) := by decide +kernel
theorem dX9_isJammedAt_34 : decode cX9_isJammedAt 34 = .ok (.invokevirtual 98, 3) := by decide +kernel
theorem dX9_isJammedAt_37 : decode cX9_isJammedAt 37 = .ok (.baload, 1) := by decide +kernel
theorem dX9_isJammedAt_38 : decode cX9_isJammedAt 38 = .ok (.ireturn, 1) := by decide +kernel
theorem dX9_sets_0 : decode cX9_sets 0 = .ok (.iload_n 1, 1) := by decide +kernel
theorem dX9_sets_1 : decode cX9_sets 1 = .ok (.ifCond .ne 11, 3) := by decide +kernel
theorem dX9_sets_4 : decode cX9_sets 4 = .ok (.aload_n 0, 1) := by decide +kernel
theorem dX9_sets_5 : decode cX9_sets 5 = .ok (.iload_n 2, 1) := by decide +kernel
theorem dX9_sets_6 : decode cX9_sets 6 = .ok (.putfield 105, 3) := by decide +kernel
theorem dX9_sets_9 : decode cX9_sets 9 = .ok (.goto 32, 3) := by decide +kernel
theorem dX9_sets_12 : decode cX9_sets 12 = .ok (.iload_n 1, 1) := by decide +kernel
theorem dX9_sets_13 : decode cX9_sets 13 = .ok (.aload_n 0, 1) := by decide +kernel
theorem dX9_sets_14 : decode cX9_sets 14 = .ok (.getfield 7, 3) := by decide +kernel
theorem dX9_sets_17 : decode cX9_sets 17 = .ok (.iconst 1, 1) := by decide +kernel
theorem dX9_sets_18 : decode cX9_sets 18 = .ok (.isub, 1) := by decide +kernel
theorem dX9_sets_19 : decode cX9_sets 19 = .ok (.if_icmp .ne 11, 3) := by decide +kernel
theorem dX9_sets_22 : decode cX9_sets 22 = .ok (.aload_n 0, 1) := by decide +kernel
theorem dX9_sets_23 : decode cX9_sets 23 = .ok (.iload_n 2, 1) := by decide +kernel
theorem dX9_sets_24 : decode cX9_sets 24 = .ok (.putfield 109, 3) := by decide +kernel
theorem dX9_sets_27 : decode cX9_sets 27 = .ok (.goto 14, 3) := by decide +kernel
theorem dX9_sets_30 : decode cX9_sets 30 = .ok (.aload_n 0, 1) := by decide +kernel
theorem dX9_sets_31 : decode cX9_sets 31 = .ok (.getfield 23, 3) := by decide +kernel
theorem dX9_sets_34 : decode cX9_sets 34 = .ok (.aload_n 0, 1) := by decide +kernel
theorem dX9_sets_35 : decode cX9_sets 35 = .ok (.iload_n 1, 1) := by decide +kernel
theorem dX9_sets_36 : decode cX9_sets 36 = .ok (.invokevirtual 98, 3) := by decide +kernel
theorem dX9_sets_39 : decode cX9_sets 39 = .ok (.iload_n 2, 1) := by decide +kernel
theorem dX9_sets_40 : decode cX9_sets 40 = .ok (.bastore, 1) := by decide +kernel
theorem dX9_sets_41 : decode cX9_sets 41 = .ok (.return_, 1) := by decide +kernel
theorem dX9_jams_0 : decode cX9_jams 0 = .ok (.aload_n 0, 1) := by decide +kernel
theorem dX9_jams_1 : decode cX9_jams 1 = .ok (.getfield 105, 3) := by decide +kernel
theorem dX9_jams_4 : decode cX9_jams 4 = .ok (.ifCond .eq 7, 3) := by decide +kernel
theorem dX9_jams_7 : decode cX9_jams 7 = .ok (.iconst 1, 1) := by decide +kernel
theorem dX9_jams_8 : decode cX9_jams 8 = .ok (.goto 4, 3) := by decide +kernel
theorem dX9_jams_11 : decode cX9_jams 11 = .ok (.iconst 0, 1) := by decide +kernel
theorem dX9_jams_12 : decode cX9_jams 12 = .ok (.aload_n 0, 1) := by decide +kernel
theorem dX9_jams_13 : decode cX9_jams 13 = .ok (.getfield 109, 3) := by decide +kernel
theorem dX9_jams_16 : decode cX9_jams 16 = .ok (.ifCond .eq 7, 3) := by decide +kernel
theorem dX9_jams_19 : decode cX9_jams 19 = .ok (.iconst 1, 1) := by decide +kernel
theorem dX9_jams_20 : decode cX9_jams 20 = .ok (.goto 4, 3) := by decide +kernel
theorem dX9_jams_23 : decode cX9_jams 23 = .ok (.iconst 0, 1) := by decide +kernel
theorem dX9_jams_24 : decode cX9_jams 24 = .ok (.iadd, 1) := by decide +kernel
theorem dX9_jams_25 : decode cX9_jams 25 = .ok (.istore_n 1, 1) := by decide +kernel
theorem dX9_jams_26 : decode cX9_jams 26 = .ok (.iconst 0, 1) := by decide +kernel
theorem dX9_jams_27 : decode cX9_jams 27 = .ok (.istore_n 2, 1) := by decide +kernel
theorem dX9_jams_28 : decode cX9_jams 28 = .ok (.iload_n 2, 1) := by decide +kernel
theorem dX9_jams_29 : decode cX9_jams 29 = .ok (.aload_n 0, 1) := by decide +kernel
theorem dX9_jams_30 : decode cX9_jams 30 = .ok (.getfield 84, 3) := by decide +kernel
theorem dX9_jams_33 : decode cX9_jams 33 = .ok (.if_icmp .ge 26, 3) := by decide +kernel
theorem dX9_jams_36 : decode cX9_jams 36 = .ok (.iload_n 1, 1) := by decide +kernel
theorem dX9_jams_37 : decode cX9_jams 37 = .ok (.aload_n 0, 1) := by decide +kernel
theorem dX9_jams_38 : decode cX9_jams 38 = .ok (.getfield 23, 3) := by decide +kernel
theorem dX9_jams_41 : decode cX9_jams 41 = .ok (.iload_n 2, 1) := by decide +kernel
theorem dX9_jams_42 : decode cX9_jams 42 = .ok (.baload, 1) := by decide +kernel
theorem dX9_jams_43 : decode cX9_jams 43 = .ok (.ifCond .eq 7, 3) := by decide +kernel
theorem dX9_jams_46 : decode cX9_jams 46 = .ok (.iconst 1, 1) := by decide +kernel
theorem dX9_jams_47 : decode cX9_jams 47 = .ok (.goto 4, 3) := by decide +kernel
theorem dX9_jams_50 : decode cX9_jams 50 = .ok (.iconst 0, 1) := by decide +kernel
theorem dX9_jams_51 : decode cX9_jams 51 = .ok (.iadd, 1) := by decide +kernel
theorem dX9_jams_52 : decode cX9_jams 52 = .ok (.istore_n 1, 1) := by decide +kernel
theorem dX9_jams_53 : decode cX9_jams 53 = .ok (.iinc 2 1, 3) := by decide +kernel
theorem dX9_jams_56 : decode cX9_jams 56 = .ok (.goto (-28), 3) := by decide +kernel
theorem dX9_jams_59 : decode cX9_jams 59 = .ok (.iload_n 1, 1) := by decide +kernel
theorem dX9_jams_60 : decode cX9_jams 60 = .ok (.ireturn, 1) := by decide +kernel
theorem dX9_jam_0 : decode cX9_jam 0 = .ok (.aload_n 0, 1) := by decide +kernel
theorem dX9_jam_1 : decode cX9_jam 1 = .ok (.aload_n 0, 1) := by decide +kernel
theorem dX9_jam_2 : decode cX9_jam 2 = .ok (.iload_n 1, 1) := by decide +kernel
theorem dX9_jam_3 : decode cX9_jam 3 = .ok (.invokevirtual 112, 3) := by decide +kernel
theorem dX9_jam_6 : decode cX9_jam 6 = .ok (.ifCond .ne 7, 3) := by decide +kernel
theorem dX9_jam_9 : decode cX9_jam 9 = .ok (.iconst 1, 1) := by decide +kernel
theorem dX9_jam_10 : decode cX9_jam 10 = .ok (.goto 16, 3) := by decide +kernel
theorem dX9_jam_13 : decode cX9_jam 13 = .ok (.aload_n 0, 1) := by decide +kernel
theorem dX9_jam_14 : decode cX9_jam 14 = .ok (.iload_n 1, 1) := by decide +kernel
theorem dX9_jam_15 : decode cX9_jam 15 = .ok (.invokevirtual 115, 3) := by decide +kernel
theorem dX9_jam_18 : decode cX9_jam 18 = .ok (.ifCond .eq 7, 3) := by decide +kernel
theorem dX9_jam_21 : decode cX9_jam 21 = .ok (.iconst 2, 1) := by decide +kernel
theorem dX9_jam_22 : decode cX9_jam 22 = .ok (.goto 4, 3) := by decide +kernel
theorem dX9_jam_25 : decode cX9_jam 25 = .ok (.iconst 0, 1) := by decide +kernel
theorem dX9_jam_26 : decode cX9_jam 26 = .ok (.invokevirtual 94, 3) := by decide +kernel
theorem dX9_jam_29 : decode cX9_jam 29 = .ok (.ifCond .ne 5, 3) := by decide +kernel
theorem dX9_jam_32 : decode cX9_jam 32 = .ok (.iconst 0, 1) := by decide +kernel
theorem dX9_jam_33 : decode cX9_jam 33 = .ok (.ireturn, 1) := by decide +kernel
theorem dX9_jam_34 : decode cX9_jam 34 = .ok (.aload_n 0, 1) := by decide +kernel
theorem dX9_jam_35 : decode cX9_jam 35 = .ok (.iload_n 1, 1) := by decide +kernel
theorem dX9_jam_36 : decode cX9_jam 36 = .ok (.iconst 1, 1) := by decide +kernel
theorem dX9_jam_37 : decode cX9_jam 37 = .ok (.invokevirtual 118, 3) := by decide +kernel
theorem dX9_jam_40 : decode cX9_jam 40 = .ok (.aload_n 0, 1) := by decide +kernel
theorem dX9_jam_41 : decode cX9_jam 41 = .ok (.invokevirtual 122, 3) := by decide +kernel
theorem dX9_jam_44 : decode cX9_jam 44 = .ok (.ireturn, 1) := by decide +kernel
theorem dX9_free_0 : decode cX9_free 0 = .ok (.aload_n 0, 1) := by decide +kernel
theorem dX9_free_1 : decode cX9_free 1 = .ok (.aload_n 0, 1) := by decide +kernel
theorem dX9_free_2 : decode cX9_free 2 = .ok (.iload_n 1, 1) := by decide +kernel
theorem dX9_free_3 : decode cX9_free 3 = .ok (.invokevirtual 112, 3) := by decide +kernel
theorem dX9_free_6 : decode cX9_free 6 = .ok (.ifCond .ne 7, 3) := by decide +kernel
theorem dX9_free_9 : decode cX9_free 9 = .ok (.iconst 1, 1) := by decide +kernel
theorem dX9_free_10 : decode cX9_free 10 = .ok (.goto 16, 3) := by decide +kernel
theorem dX9_free_13 : decode cX9_free 13 = .ok (.aload_n 0, 1) := by decide +kernel
theorem dX9_free_14 : decode cX9_free 14 = .ok (.iload_n 1, 1) := by decide +kernel
theorem dX9_free_15 : decode cX9_free 15 = .ok (.invokevirtual 115, 3) := by decide +kernel
theorem dX9_free_18 : decode cX9_free 18 = .ok (.ifCond .ne 7, 3) := by decide +kernel
theorem dX9_free_21 : decode cX9_free 21 = .ok (.iconst 2, 1) := by decide +kernel
theorem dX9_free_22 : decode cX9_free 22 = .ok (.goto 4, 3) := by decide +kernel
theorem dX9_free_25 : decode cX9_free 25 = .ok (.iconst 0, 1) := by decide +kernel
theorem dX9_free_26 : decode cX9_free 26 = .ok (.invokevirtual 94, 3) := by decide +kernel
theorem dX9_free_29 : decode cX9_free 29 = .ok (.ifCond .ne 5, 3) := by decide +kernel
theorem dX9_free_32 : decode cX9_free 32 = .ok (.iconst 0, 1) := by decide +kernel
theorem dX9_free_33 : decode cX9_free 33 = .ok (.ireturn, 1) := by decide +kernel
theorem dX9_free_34 : decode cX9_free 34 = .ok (.aload_n 0, 1) := by decide +kernel
theorem dX9_free_35 : decode cX9_free 35 = .ok (.iload_n 1, 1) := by decide +kernel
theorem dX9_free_36 : decode cX9_free 36 = .ok (.iconst 0, 1) := by decide +kernel
theorem dX9_free_37 : decode cX9_free 37 = .ok (.invokevirtual 118, 3) := by decide +kernel
theorem dX9_free_40 : decode cX9_free 40 = .ok (.aload_n 0, 1) := by decide +kernel
theorem dX9_free_41 : decode cX9_free 41 = .ok (.invokevirtual 122, 3) := by decide +kernel
theorem dX9_free_44 : decode cX9_free 44 = .ok (.ireturn, 1) := by decide +kernel
theorem dX9_stationAt_0 : decode cX9_stationAt 0 = .ok (.aload_n 0, 1) := by decide +kernel
theorem dX9_stationAt_1 : decode cX9_stationAt 1 = .ok (.aload_n 0, 1) := by decide +kernel
theorem dX9_stationAt_2 : decode cX9_stationAt 2 = .ok (.iload_n 1, 1) := by decide +kernel
theorem dX9_stationAt_3 : decode cX9_stationAt 3 = .ok (.invokevirtual 126, 3) := by decide +kernel
theorem dX9_stationAt_6 : decode cX9_stationAt 6 = .ok (.ifCond .eq 7, 3) := by decide +kernel
theorem dX9_stationAt_9 : decode cX9_stationAt 9 = .ok (.iconst 0, 1) := by decide +kernel
theorem dX9_stationAt_10 : decode cX9_stationAt 10 = .ok (.goto 4, 3) := by decide +kernel
theorem dX9_stationAt_13 : decode cX9_stationAt 13 = .ok (.iconst 1, 1) := by decide +kernel
theorem dX9_stationAt_14 : decode cX9_stationAt 14 = .ok (.invokevirtual 94, 3) := by decide +kernel
theorem dX9_stationAt_17 : decode cX9_stationAt 17 = .ok (.ifCond .ne 5, 3) := by decide +kernel
theorem dX9_stationAt_20 : decode cX9_stationAt 20 = .ok (.iconst 0, 1) := by decide +kernel
theorem dX9_stationAt_21 : decode cX9_stationAt 21 = .ok (.ireturn, 1) := by decide +kernel
theorem dX9_stationAt_22 : decode cX9_stationAt 22 = .ok (.iload_n 1, 1) := by decide +kernel
theorem dX9_stationAt_23 : decode cX9_stationAt 23 = .ok (.ifCond .ne 8, 3) := by decide +kernel
theorem dX9_stationAt_26 : decode cX9_stationAt 26 = .ok (.bipush 105, 2) := by decide +kernel
theorem dX9_stationAt_28 : decode cX9_stationAt 28 = .ok (.goto 34, 3) := by decide +kernel
theorem dX9_stationAt_31 : decode cX9_stationAt 31 = .ok (.iload_n 1, 1) := by decide +kernel
theorem dX9_stationAt_32 : decode cX9_stationAt 32 = .ok (.aload_n 0, 1) := by decide +kernel
theorem dX9_stationAt_33 : decode cX9_stationAt 33 = .ok (.getfield 7, 3) := by decide +kernel
theorem dX9_stationAt_36 : decode cX9_stationAt 36 = .ok (.iconst 1, 1) := by decide +kernel
theorem dX9_stationAt_37 : decode cX9_stationAt 37 = .ok (.isub, 1) := by decide +kernel
theorem dX9_stationAt_38 : decode cX9_stationAt 38 = .ok (.if_icmp .ne 8, 3) := by decide +kernel
theorem dX9_stationAt_41 : decode cX9_stationAt 41 = .ok (.bipush 111, 2) := by decide +kernel
theorem dX9_stationAt_43 : decode cX9_stationAt 43 = .ok (.goto 19, 3) := by decide +kernel
theorem dX9_stationAt_46 : decode cX9_stationAt 46 = .ok (.aload_n 0, 1) := by decide +kernel
theorem dX9_stationAt_47 : decode cX9_stationAt 47 = .ok (.iload_n 1, 1) := by decide +kernel
theorem dX9_stationAt_48 : decode cX9_stationAt 48 = .ok (.invokevirtual 98, 3) := by decide +kernel
theorem dX9_stationAt_51 : decode cX9_stationAt 51 = .ok (.iconst (-1), 1) := by decide +kernel
theorem dX9_stationAt_52 : decode cX9_stationAt 52 = .ok (.if_icmp .eq 8, 3) := by decide +kernel
theorem dX9_stationAt_55 : decode cX9_stationAt 55 = .ok (.bipush 99, 2) := by decide +kernel
theorem dX9_stationAt_57 : decode cX9_stationAt 57 = .ok (.goto 5, 3) := by decide +kernel
theorem dX9_stationAt_60 : decode cX9_stationAt 60 = .ok (.bipush 45, 2) := by decide +kernel
theorem dX9_stationAt_62 : decode cX9_stationAt 62 = .ok (.ireturn, 1) := by decide +kernel
theorem dX9_moves_0 : decode cX9_moves 0 = .ok (.aload_n 0, 1) := by decide +kernel
theorem dX9_moves_1 : decode cX9_moves 1 = .ok (.getfield 13, 3) := by decide +kernel
theorem dX9_moves_4 : decode cX9_moves 4 = .ok (.aload_n 0, 1) := by decide +kernel
theorem dX9_moves_5 : decode cX9_moves 5 = .ok (.getfield 7, 3) := by decide +kernel
theorem dX9_moves_8 : decode cX9_moves 8 = .ok (.iconst 1, 1) := by decide +kernel
theorem dX9_moves_9 : decode cX9_moves 9 = .ok (.isub, 1) := by decide +kernel
theorem dX9_moves_10 : decode cX9_moves 10 = .ok (.iaload, 1) := by decide +kernel
theorem dX9_moves_11 : decode cX9_moves 11 = .ok (.istore_n 1, 1) := by decide +kernel
theorem dX9_moves_12 : decode cX9_moves 12 = .ok (.aload_n 0, 1) := by decide +kernel
theorem dX9_moves_13 : decode cX9_moves 13 = .ok (.getfield 7, 3) := by decide +kernel
theorem dX9_moves_16 : decode cX9_moves 16 = .ok (.iconst 1, 1) := by decide +kernel
theorem dX9_moves_17 : decode cX9_moves 17 = .ok (.isub, 1) := by decide +kernel
theorem dX9_moves_18 : decode cX9_moves 18 = .ok (.istore_n 2, 1) := by decide +kernel
theorem dX9_moves_19 : decode cX9_moves 19 = .ok (.iload_n 2, 1) := by decide +kernel
theorem dX9_moves_20 : decode cX9_moves 20 = .ok (.ifCond .le 23, 3) := by decide +kernel
theorem dX9_moves_23 : decode cX9_moves 23 = .ok (.aload_n 0, 1) := by decide +kernel
theorem dX9_moves_24 : decode cX9_moves 24 = .ok (.getfield 13, 3) := by decide +kernel
theorem dX9_moves_27 : decode cX9_moves 27 = .ok (.iload_n 2, 1) := by decide +kernel
theorem dX9_moves_28 : decode cX9_moves 28 = .ok (.aload_n 0, 1) := by decide +kernel
theorem dX9_moves_29 : decode cX9_moves 29 = .ok (.getfield 13, 3) := by decide +kernel
theorem dX9_moves_32 : decode cX9_moves 32 = .ok (.iload_n 2, 1) := by decide +kernel
theorem dX9_moves_33 : decode cX9_moves 33 = .ok (.iconst 1, 1) := by decide +kernel
theorem dX9_moves_34 : decode cX9_moves 34 = .ok (.isub, 1) := by decide +kernel
theorem dX9_moves_35 : decode cX9_moves 35 = .ok (.iaload, 1) := by decide +kernel
theorem dX9_moves_36 : decode cX9_moves 36 = .ok (.iastore, 1) := by decide +kernel
theorem dX9_moves_37 : decode cX9_moves 37 = .ok (.iinc 2 (-1), 3) := by decide +kernel
theorem dX9_moves_40 : decode cX9_moves 40 = .ok (.goto (-21), 3) := by decide +kernel
theorem dX9_moves_43 : decode cX9_moves 43 = .ok (.aload_n 0, 1) := by decide +kernel
theorem dX9_moves_44 : decode cX9_moves 44 = .ok (.getfield 13, 3) := by decide +kernel
theorem dX9_moves_47 : decode cX9_moves 47 = .ok (.iconst 0, 1) := by decide +kernel
theorem dX9_moves_48 : decode cX9_moves 48 = .ok (.iload_n 1, 1) := by decide +kernel
theorem dX9_moves_49 : decode cX9_moves 49 = .ok (.iastore, 1) := by decide +kernel
theorem dX9_moves_50 : decode cX9_moves 50 = .ok (.iload_n 1, 1) := by decide +kernel
theorem dX9_moves_51 : decode cX9_moves 51 = .ok (.iconst (-1), 1) := by decide +kernel
theorem dX9_moves_52 : decode cX9_moves 52 = .ok (.if_icmp .eq 13, 3) := by decide +kernel
theorem dX9_moves_55 : decode cX9_moves 55 = .ok (.aload_n 0, 1) := by decide +kernel
theorem dX9_moves_56 : decode cX9_moves 56 = .ok (.getfield 39, 3) := by decide +kernel
theorem dX9_moves_59 : decode cX9_moves 59 = .ok (.iload_n 1, 1) := by decide +kernel
theorem dX9_moves_60 : decode cX9_moves 60 = .ok (.dup2, 1) := by decide +kernel
theorem dX9_moves_61 : decode cX9_moves 61 = .ok (.iaload, 1) := by decide +kernel
theorem dX9_moves_62 : decode cX9_moves 62 = .ok (.iconst 1, 1) := by decide +kernel
theorem dX9_moves_63 : decode cX9_moves 63 = .ok (.iadd, 1) := by decide +kernel
theorem dX9_moves_64 : decode cX9_moves 64 = .ok (.iastore, 1) := by decide +kernel
theorem dX9_moves_65 : decode cX9_moves 65 = .ok (.return_, 1) := by decide +kernel
theorem dX9_drops_0 : decode cX9_drops 0 = .ok (.aload_n 0, 1) := by decide +kernel
theorem dX9_drops_1 : decode cX9_drops 1 = .ok (.getfield 13, 3) := by decide +kernel
theorem dX9_drops_4 : decode cX9_drops 4 = .ok (.aload_n 0, 1) := by decide +kernel
theorem dX9_drops_5 : decode cX9_drops 5 = .ok (.getfield 17, 3) := by decide +kernel
theorem dX9_drops_8 : decode cX9_drops 8 = .ok (.iload_n 1, 1) := by decide +kernel
theorem dX9_drops_9 : decode cX9_drops 9 = .ok (.iaload, 1) := by decide +kernel
theorem dX9_drops_10 : decode cX9_drops 10 = .ok (.iaload, 1) := by decide +kernel
theorem dX9_drops_11 : decode cX9_drops 11 = .ok (.istore_n 2, 1) := by decide +kernel
theorem dX9_drops_12 : decode cX9_drops 12 = .ok (.iload_n 2, 1) := by decide +kernel
theorem dX9_drops_13 : decode cX9_drops 13 = .ok (.iconst (-1), 1) := by decide +kernel
theorem dX9_drops_14 : decode cX9_drops 14 = .ok (.if_icmp .eq 46, 3) := by decide +kernel
theorem dX9_drops_17 : decode cX9_drops 17 = .ok (.aload_n 0, 1) := by decide +kernel
theorem dX9_drops_18 : decode cX9_drops 18 = .ok (.getfield 23, 3) := by decide +kernel
theorem dX9_drops_21 : decode cX9_drops 21 = .ok (.iload_n 1, 1) := by decide +kernel
theorem dX9_drops_22 : decode cX9_drops 22 = .ok (.baload, 1) := by decide +kernel
theorem dX9_drops_23 : decode cX9_drops 23 = .ok (.ifCond .ne 37, 3) := by decide +kernel
theorem dX9_drops_26 : decode cX9_drops 26 = .ok (.aload_n 0, 1) := by decide +kernel
theorem dX9_drops_27 : decode cX9_drops 27 = .ok (.getfield 42, 3) := by decide +kernel
theorem dX9_drops_30 : decode cX9_drops 30 = .ok (.aload_n 0, 1) := by decide +kernel
theorem dX9_drops_31 : decode cX9_drops 31 = .ok (.getfield 30, 3) := by decide +kernel
theorem dX9_drops_34 : decode cX9_drops 34 = .ok (.iload_n 2, 1) := by decide +kernel
theorem dX9_drops_35 : decode cX9_drops 35 = .ok (.iaload, 1) := by decide +kernel
theorem dX9_drops_36 : decode cX9_drops 36 = .ok (.iaload, 1) := by decide +kernel
theorem dX9_drops_37 : decode cX9_drops 37 = .ok (.iload_n 1, 1) := by decide +kernel
theorem dX9_drops_38 : decode cX9_drops 38 = .ok (.if_icmp .ne 22, 3) := by decide +kernel
theorem dX9_drops_41 : decode cX9_drops 41 = .ok (.aload_n 0, 1) := by decide +kernel
theorem dX9_drops_42 : decode cX9_drops 42 = .ok (.getfield 45, 3) := by decide +kernel
theorem dX9_drops_45 : decode cX9_drops 45 = .ok (.iload_n 1, 1) := by decide +kernel
theorem dX9_drops_46 : decode cX9_drops 46 = .ok (.iaload, 1) := by decide +kernel
theorem dX9_drops_47 : decode cX9_drops 47 = .ok (.aload_n 0, 1) := by decide +kernel
theorem dX9_drops_48 : decode cX9_drops 48 = .ok (.getfield 20, 3) := by decide +kernel
theorem dX9_drops_51 : decode cX9_drops 51 = .ok (.iload_n 1, 1) := by decide +kernel
theorem dX9_drops_52 : decode cX9_drops 52 = .ok (.iaload, 1) := by decide +kernel
theorem dX9_drops_53 : decode cX9_drops 53 = .ok (.if_icmp .ge 7, 3) := by decide +kernel
theorem dX9_drops_56 : decode cX9_drops 56 = .ok (.iconst 1, 1) := by decide +kernel
theorem dX9_drops_57 : decode cX9_drops 57 = .ok (.goto 4, 3) := by decide +kernel
theorem dX9_drops_60 : decode cX9_drops 60 = .ok (.iconst 0, 1) := by decide +kernel
theorem dX9_drops_61 : decode cX9_drops 61 = .ok (.ireturn, 1) := by decide +kernel
theorem dX9_overflows_0 : decode cX9_overflows 0 = .ok (.aload_n 0, 1) := by decide +kernel
theorem dX9_overflows_1 : decode cX9_overflows 1 = .ok (.getfield 13, 3) := by decide +kernel
theorem dX9_overflows_4 : decode cX9_overflows 4 = .ok (.aload_n 0, 1) := by decide +kernel
theorem dX9_overflows_5 : decode cX9_overflows 5 = .ok (.getfield 7, 3) := by decide +kernel
theorem dX9_overflows_8 : decode cX9_overflows 8 = .ok (.iconst 1, 1) := by decide +kernel
theorem dX9_overflows_9 : decode cX9_overflows 9 = .ok (.isub, 1) := by decide +kernel
theorem dX9_overflows_10 : decode cX9_overflows 10 = .ok (.iaload, 1) := by decide +kernel
theorem dX9_overflows_11 : decode cX9_overflows 11 = .ok (.istore_n 1, 1) := by decide +kernel
theorem dX9_overflows_12 : decode cX9_overflows 12 = .ok (.iload_n 1, 1) := by decide +kernel
theorem dX9_overflows_13 : decode cX9_overflows 13 = .ok (.iconst (-1), 1) := by decide +kernel
theorem dX9_overflows_14 : decode cX9_overflows 14 = .ok (.if_icmp .eq 27, 3) := by decide +kernel
theorem dX9_overflows_17 : decode cX9_overflows 17 = .ok (.aload_n 0, 1) := by decide +kernel
theorem dX9_overflows_18 : decode cX9_overflows 18 = .ok (.getfield 109, 3) := by decide +kernel
theorem dX9_overflows_21 : decode cX9_overflows 21 = .ok (.ifCond .ne 20, 3) := by decide +kernel
theorem dX9_overflows_24 : decode cX9_overflows 24 = .ok (.aload_n 0, 1) := by decide +kernel
theorem dX9_overflows_25 : decode cX9_overflows 25 = .ok (.getfield 39, 3) := by decide +kernel
theorem dX9_overflows_28 : decode cX9_overflows 28 = .ok (.iload_n 1, 1) := by decide +kernel
theorem dX9_overflows_29 : decode cX9_overflows 29 = .ok (.iaload, 1) := by decide +kernel
theorem dX9_overflows_30 : decode cX9_overflows 30 = .ok (.aload_n 0, 1) := by decide +kernel
theorem dX9_overflows_31 : decode cX9_overflows 31 = .ok (.getfield 27, 3) := by decide +kernel
theorem dX9_overflows_34 : decode cX9_overflows 34 = .ok (.if_icmp .lt 7, 3) := by decide +kernel
theorem dX9_overflows_37 : decode cX9_overflows 37 = .ok (.iconst 1, 1) := by decide +kernel
theorem dX9_overflows_38 : decode cX9_overflows 38 = .ok (.goto 4, 3) := by decide +kernel
theorem dX9_overflows_41 : decode cX9_overflows 41 = .ok (.iconst 0, 1) := by decide +kernel
theorem dX9_overflows_42 : decode cX9_overflows 42 = .ok (.ireturn, 1) := by decide +kernel
theorem dX9_leaves_0 : decode cX9_leaves 0 = .ok (.aload_n 0, 1) := by decide +kernel
theorem dX9_leaves_1 : decode cX9_leaves 1 = .ok (.getfield 36, 3) := by decide +kernel
theorem dX9_leaves_4 : decode cX9_leaves 4 = .ok (.iload_n 1, 1) := by decide +kernel
theorem dX9_leaves_5 : decode cX9_leaves 5 = .ok (.iload_n 2, 1) := by decide +kernel
theorem dX9_leaves_6 : decode cX9_leaves 6 = .ok (.iastore, 1) := by decide +kernel
theorem dX9_leaves_7 : decode cX9_leaves 7 = .ok (.aload_n 0, 1) := by decide +kernel
theorem dX9_leaves_8 : decode cX9_leaves 8 = .ok (.dup, 1) := by decide +kernel
theorem dX9_leaves_9 : decode cX9_leaves 9 = .ok (.getfield 129, 3) := by decide +kernel
theorem dX9_leaves_12 : decode cX9_leaves 12 = .ok (.iconst 1, 1) := by decide +kernel
theorem dX9_leaves_13 : decode cX9_leaves 13 = .ok (.iadd, 1) := by decide +kernel
theorem dX9_leaves_14 : decode cX9_leaves 14 = .ok (.putfield 129, 3) := by decide +kernel
theorem dX9_leaves_17 : decode cX9_leaves 17 = .ok (.aload_n 0, 1) := by decide +kernel
theorem dX9_leaves_18 : decode cX9_leaves 18 = .ok (.dup, 1) := by decide +kernel
theorem dX9_leaves_19 : decode cX9_leaves 19 = .ok (.getfield 132, 3) := by decide +kernel
theorem dX9_leaves_22 : decode cX9_leaves 22 = .ok (.aload_n 0, 1) := by decide +kernel
theorem dX9_leaves_23 : decode cX9_leaves 23 = .ok (.getfield 39, 3) := by decide +kernel
theorem dX9_leaves_26 : decode cX9_leaves 26 = .ok (.iload_n 1, 1) := by decide +kernel
theorem dX9_leaves_27 : decode cX9_leaves 27 = .ok (.iaload, 1) := by decide +kernel
theorem dX9_leaves_28 : decode cX9_leaves 28 = .ok (.iadd, 1) := by decide +kernel
theorem dX9_leaves_29 : decode cX9_leaves 29 = .ok (.putfield 132, 3) := by decide +kernel
theorem dX9_leaves_32 : decode cX9_leaves 32 = .ok (.return_, 1) := by decide +kernel
theorem dX9_passesOne_0 : decode cX9_passesOne 0 = .ok (.aload_n 0, 1) := by decide +kernel
theorem dX9_passesOne_1 : decode cX9_passesOne 1 = .ok (.getfield 129, 3) := by decide +kernel
theorem dX9_passesOne_4 : decode cX9_passesOne 4 = .ok (.istore_n 1, 1) := by decide +kernel
theorem dX9_passesOne_5 : decode cX9_passesOne 5 = .ok (.aload_n 0, 1) := by decide +kernel
theorem dX9_passesOne_6 : decode cX9_passesOne 6 = .ok (.dup, 1) := by decide +kernel
theorem dX9_passesOne_7 : decode cX9_passesOne 7 = .ok (.getfield 135, 3) := by decide +kernel
theorem dX9_passesOne_10 : decode cX9_passesOne 10 = .ok (.lconst 1, 1) := by decide +kernel
theorem dX9_passesOne_11 : decode cX9_passesOne 11 = .ok (.ladd, 1) := by decide +kernel
theorem dX9_passesOne_12 : decode cX9_passesOne 12 = .ok (.putfield 135, 3) := by decide +kernel
theorem dX9_passesOne_15 : decode cX9_passesOne 15 = .ok (.aload_n 0, 1) := by decide +kernel
theorem dX9_passesOne_16 : decode cX9_passesOne 16 = .ok (.invokevirtual 139, 3) := by decide +kernel
theorem dX9_passesOne_19 : decode cX9_passesOne 19 = .ok (.iconst 0, 1) := by decide +kernel
theorem dX9_passesOne_20 : decode cX9_passesOne 20 = .ok (.istore_n 2, 1) := by decide +kernel
theorem dX9_passesOne_21 : decode cX9_passesOne 21 = .ok (.iload_n 2, 1) := by decide +kernel
theorem dX9_passesOne_22 : decode cX9_passesOne 22 = .ok (.aload_n 0, 1) := by decide +kernel
theorem dX9_passesOne_23 : decode cX9_passesOne 23 = .ok (.getfield 84, 3) := by decide +kernel
theorem dX9_passesOne_26 : decode cX9_passesOne 26 = .ok (.if_icmp .ge 117, 3) := by decide +kernel
theorem dX9_passesOne_29 : decode cX9_passesOne 29 = .ok (.aload_n 0, 1) := by decide +kernel
theorem dX9_passesOne_30 : decode cX9_passesOne 30 = .ok (.iload_n 2, 1) := by decide +kernel
theorem dX9_passesOne_31 : decode cX9_passesOne 31 = .ok (.invokevirtual 142, 3) := by decide +kernel
theorem dX9_passesOne_34 : decode cX9_passesOne 34 = .ok (.ifCond .eq 103, 3) := by decide +kernel
theorem dX9_passesOne_37 : decode cX9_passesOne 37 = .ok (.aload_n 0, 1) := by decide +kernel
theorem dX9_passesOne_38 : decode cX9_passesOne 38 = .ok (.getfield 13, 3) := by decide +kernel
theorem dX9_passesOne_41 : decode cX9_passesOne 41 = .ok (.aload_n 0, 1) := by decide +kernel
theorem dX9_passesOne_42 : decode cX9_passesOne 42 = .ok (.getfield 17, 3) := by decide +kernel
theorem dX9_passesOne_45 : decode cX9_passesOne 45 = .ok (.iload_n 2, 1) := by decide +kernel
theorem dX9_passesOne_46 : decode cX9_passesOne 46 = .ok (.iaload, 1) := by decide +kernel
theorem dX9_passesOne_47 : decode cX9_passesOne 47 = .ok (.iaload, 1) := by decide +kernel
theorem dX9_passesOne_48 : decode cX9_passesOne 48 = .ok (.istore_n 3, 1) := by decide +kernel
theorem dX9_passesOne_49 : decode cX9_passesOne 49 = .ok (.aload_n 0, 1) := by decide +kernel
theorem dX9_passesOne_50 : decode cX9_passesOne 50 = .ok (.getfield 13, 3) := by decide +kernel
theorem dX9_passesOne_53 : decode cX9_passesOne 53 = .ok (.aload_n 0, 1) := by decide +kernel
theorem dX9_passesOne_54 : decode cX9_passesOne 54 = .ok (.getfield 17, 3) := by decide +kernel
theorem dX9_passesOne_57 : decode cX9_passesOne 57 = .ok (.iload_n 2, 1) := by decide +kernel
theorem dX9_passesOne_58 : decode cX9_passesOne 58 = .ok (.iaload, 1) := by decide +kernel
theorem dX9_passesOne_59 : decode cX9_passesOne 59 = .ok (.iconst (-1), 1) := by decide +kernel
theorem dX9_passesOne_60 : decode cX9_passesOne 60 = .ok (.iastore, 1) := by decide +kernel
theorem dX9_passesOne_61 : decode cX9_passesOne 61 = .ok (.aload_n 0, 1) := by decide +kernel
theorem dX9_passesOne_62 : decode cX9_passesOne 62 = .ok (.getfield 48, 3) := by decide +kernel
theorem dX9_passesOne_65 : decode cX9_passesOne 65 = .ok (.bipush 30, 2) := by decide +kernel
theorem dX9_passesOne_67 : decode cX9_passesOne 67 = .ok (.iload_n 2, 1) := by decide +kernel
theorem dX9_passesOne_68 : decode cX9_passesOne 68 = .ok (.imul, 1) := by decide +kernel
theorem dX9_passesOne_69 : decode cX9_passesOne 69 = .ok (.aload_n 0, 1) := by decide +kernel
theorem dX9_passesOne_70 : decode cX9_passesOne 70 = .ok (.getfield 45, 3) := by decide +kernel
theorem dX9_passesOne_73 : decode cX9_passesOne 73 = .ok (.iload_n 2, 1) := by decide +kernel
theorem dX9_passesOne_74 : decode cX9_passesOne 74 = .ok (.iaload, 1) := by decide +kernel
theorem dX9_passesOne_75 : decode cX9_passesOne 75 = .ok (.iadd, 1) := by decide +kernel
theorem dX9_passesOne_76 : decode cX9_passesOne 76 = .ok (.iload_n 3, 1) := by decide +kernel
theorem dX9_passesOne_77 : decode cX9_passesOne 77 = .ok (.iastore, 1) := by decide +kernel
theorem dX9_passesOne_78 : decode cX9_passesOne 78 = .ok (.aload_n 0, 1) := by decide +kernel
theorem dX9_passesOne_79 : decode cX9_passesOne 79 = .ok (.getfield 45, 3) := by decide +kernel
theorem dX9_passesOne_82 : decode cX9_passesOne 82 = .ok (.iload_n 2, 1) := by decide +kernel
theorem dX9_passesOne_83 : decode cX9_passesOne 83 = .ok (.dup2, 1) := by decide +kernel
theorem dX9_passesOne_84 : decode cX9_passesOne 84 = .ok (.iaload, 1) := by decide +kernel
theorem dX9_passesOne_85 : decode cX9_passesOne 85 = .ok (.iconst 1, 1) := by decide +kernel
theorem dX9_passesOne_86 : decode cX9_passesOne 86 = .ok (.iadd, 1) := by decide +kernel
theorem dX9_passesOne_87 : decode cX9_passesOne 87 = .ok (.iastore, 1) := by decide +kernel
theorem dX9_passesOne_88 : decode cX9_passesOne 88 = .ok (.aload_n 0, 1) := by decide +kernel
theorem dX9_passesOne_89 : decode cX9_passesOne 89 = .ok (.getfield 51, 3) := by decide +kernel
theorem dX9_passesOne_92 : decode cX9_passesOne 92 = .ok (.iload_n 2, 1) := by decide +kernel
theorem dX9_passesOne_93 : decode cX9_passesOne 93 = .ok (.aload_n 0, 1) := by decide +kernel
theorem dX9_passesOne_94 : decode cX9_passesOne 94 = .ok (.getfield 51, 3) := by decide +kernel
theorem dX9_passesOne_97 : decode cX9_passesOne 97 = .ok (.iload_n 2, 1) := by decide +kernel
theorem dX9_passesOne_98 : decode cX9_passesOne 98 = .ok (.iaload, 1) := by decide +kernel
theorem dX9_passesOne_99 : decode cX9_passesOne 99 = .ok (.iload_n 3, 1) := by decide +kernel
theorem dX9_passesOne_100 : decode cX9_passesOne 100 = .ok (.iadd, 1) := by decide +kernel
theorem dX9_passesOne_101 : decode cX9_passesOne 101 = .ok (.iconst 1, 1) := by decide +kernel
theorem dX9_passesOne_102 : decode cX9_passesOne 102 = .ok (.iadd, 1) := by decide +kernel
theorem dX9_passesOne_103 : decode cX9_passesOne 103 = .ok (.sipush 9973, 3) := by decide +kernel
theorem dX9_passesOne_106 : decode cX9_passesOne 106 = .ok (.irem, 1) := by decide +kernel
theorem dX9_passesOne_107 : decode cX9_passesOne 107 = .ok (.iastore, 1) := by decide +kernel
theorem dX9_passesOne_108 : decode cX9_passesOne 108 = .ok (.aload_n 0, 1) := by decide +kernel
theorem dX9_passesOne_109 : decode cX9_passesOne 109 = .ok (.getfield 54, 3) := by decide +kernel
theorem dX9_passesOne_112 : decode cX9_passesOne 112 = .ok (.iload_n 2, 1) := by decide +kernel
theorem dX9_passesOne_113 : decode cX9_passesOne 113 = .ok (.aload_n 0, 1) := by decide +kernel
theorem dX9_passesOne_114 : decode cX9_passesOne 114 = .ok (.getfield 54, 3) := by decide +kernel
theorem dX9_passesOne_117 : decode cX9_passesOne 117 = .ok (.iload_n 2, 1) := by decide +kernel
theorem dX9_passesOne_118 : decode cX9_passesOne 118 = .ok (.iaload, 1) := by decide +kernel
theorem dX9_passesOne_119 : decode cX9_passesOne 119 = .ok (.aload_n 0, 1) := by decide +kernel
theorem dX9_passesOne_120 : decode cX9_passesOne 120 = .ok (.getfield 51, 3) := by decide +kernel
theorem dX9_passesOne_123 : decode cX9_passesOne 123 = .ok (.iload_n 2, 1) := by decide +kernel
theorem dX9_passesOne_124 : decode cX9_passesOne 124 = .ok (.iaload, 1) := by decide +kernel
theorem dX9_passesOne_125 : decode cX9_passesOne 125 = .ok (.iadd, 1) := by decide +kernel
theorem dX9_passesOne_126 : decode cX9_passesOne 126 = .ok (.sipush 9973, 3) := by decide +kernel
theorem dX9_passesOne_129 : decode cX9_passesOne 129 = .ok (.irem, 1) := by decide +kernel
theorem dX9_passesOne_130 : decode cX9_passesOne 130 = .ok (.iastore, 1) := by decide +kernel
theorem dX9_passesOne_131 : decode cX9_passesOne 131 = .ok (.aload_n 0, 1) := by decide +kernel
theorem dX9_passesOne_132 : decode cX9_passesOne 132 = .ok (.iload_n 3, 1) := by decide +kernel
theorem dX9_passesOne_133 : decode cX9_passesOne 133 = .ok (.iconst 2, 1) := by decide +kernel
theorem dX9_passesOne_134 : decode cX9_passesOne 134 = .ok (.invokevirtual 145, 3) := by decide +kernel
theorem dX9_passesOne_137 : decode cX9_passesOne 137 = .ok (.iinc 2 1, 3) := by decide +kernel
theorem dX9_passesOne_140 : decode cX9_passesOne 140 = .ok (.goto (-119), 3) := by decide +kernel
theorem dX9_passesOne_143 : decode cX9_passesOne 143 = .ok (.aload_n 0, 1) := by decide +kernel
theorem dX9_passesOne_144 : decode cX9_passesOne 144 = .ok (.invokevirtual 149, 3) := by decide +kernel
theorem dX9_passesOne_147 : decode cX9_passesOne 147 = .ok (.ifCond .eq 41, 3) := by decide +kernel
theorem dX9_passesOne_150 : decode cX9_passesOne 150 = .ok (.aload_n 0, 1) := by decide +kernel
theorem dX9_passesOne_151 : decode cX9_passesOne 151 = .ok (.aload_n 0, 1) := by decide +kernel
theorem dX9_passesOne_152 : decode cX9_passesOne 152 = .ok (.getfield 13, 3) := by decide +kernel
theorem dX9_passesOne_155 : decode cX9_passesOne 155 = .ok (.aload_n 0, 1) := by decide +kernel
theorem dX9_passesOne_156 : decode cX9_passesOne 156 = .ok (.getfield 7, 3) := by decide +kernel
theorem dX9_passesOne_159 : decode cX9_passesOne 159 = .ok (.iconst 1, 1) := by decide +kernel
theorem dX9_passesOne_160 : decode cX9_passesOne 160 = .ok (.isub, 1) := by decide +kernel
theorem dX9_passesOne_161 : decode cX9_passesOne 161 = .ok (.iaload, 1) := by decide +kernel
theorem dX9_passesOne_162 : decode cX9_passesOne 162 = .ok (.iconst 4, 1) := by decide +kernel
theorem dX9_passesOne_163 : decode cX9_passesOne 163 = .ok (.invokevirtual 145, 3) := by decide +kernel
theorem dX9_passesOne_166 : decode cX9_passesOne 166 = .ok (.aload_n 0, 1) := by decide +kernel
theorem dX9_passesOne_167 : decode cX9_passesOne 167 = .ok (.getfield 13, 3) := by decide +kernel
theorem dX9_passesOne_170 : decode cX9_passesOne 170 = .ok (.aload_n 0, 1) := by decide +kernel
theorem dX9_passesOne_171 : decode cX9_passesOne 171 = .ok (.getfield 7, 3) := by decide +kernel
theorem dX9_passesOne_174 : decode cX9_passesOne 174 = .ok (.iconst 1, 1) := by decide +kernel
theorem dX9_passesOne_175 : decode cX9_passesOne 175 = .ok (.isub, 1) := by decide +kernel
theorem dX9_passesOne_176 : decode cX9_passesOne 176 = .ok (.iconst (-1), 1) := by decide +kernel
theorem dX9_passesOne_177 : decode cX9_passesOne 177 = .ok (.iastore, 1) := by decide +kernel
theorem dX9_passesOne_178 : decode cX9_passesOne 178 = .ok (.aload_n 0, 1) := by decide +kernel
theorem dX9_passesOne_179 : decode cX9_passesOne 179 = .ok (.dup, 1) := by decide +kernel
theorem dX9_passesOne_180 : decode cX9_passesOne 180 = .ok (.getfield 153, 3) := by decide +kernel
theorem dX9_passesOne_183 : decode cX9_passesOne 183 = .ok (.iconst 1, 1) := by decide +kernel
theorem dX9_passesOne_184 : decode cX9_passesOne 184 = .ok (.iadd, 1) := by decide +kernel
theorem dX9_passesOne_185 : decode cX9_passesOne 185 = .ok (.putfield 153, 3) := by decide +kernel
theorem dX9_passesOne_188 : decode cX9_passesOne 188 = .ok (.aload_n 0, 1) := by decide +kernel
theorem dX9_passesOne_189 : decode cX9_passesOne 189 = .ok (.getfield 105, 3) := by decide +kernel
theorem dX9_passesOne_192 : decode cX9_passesOne 192 = .ok (.ifCond .ne 54, 3) := by decide +kernel
theorem dX9_passesOne_195 : decode cX9_passesOne 195 = .ok (.aload_n 0, 1) := by decide +kernel
theorem dX9_passesOne_196 : decode cX9_passesOne 196 = .ok (.getfield 13, 3) := by decide +kernel
theorem dX9_passesOne_199 : decode cX9_passesOne 199 = .ok (.iconst 0, 1) := by decide +kernel
theorem dX9_passesOne_200 : decode cX9_passesOne 200 = .ok (.iaload, 1) := by decide +kernel
theorem dX9_passesOne_201 : decode cX9_passesOne 201 = .ok (.iconst (-1), 1) := by decide +kernel
theorem dX9_passesOne_202 : decode cX9_passesOne 202 = .ok (.if_icmp .ne 44, 3) := by decide +kernel
theorem dX9_passesOne_205 : decode cX9_passesOne 205 = .ok (.aload_n 0, 1) := by decide +kernel
theorem dX9_passesOne_206 : decode cX9_passesOne 206 = .ok (.getfield 156, 3) := by decide +kernel
theorem dX9_passesOne_209 : decode cX9_passesOne 209 = .ok (.aload_n 0, 1) := by decide +kernel
theorem dX9_passesOne_210 : decode cX9_passesOne 210 = .ok (.getfield 91, 3) := by decide +kernel
theorem dX9_passesOne_213 : decode cX9_passesOne 213 = .ok (.if_icmp .ge 33, 3) := by decide +kernel
theorem dX9_passesOne_216 : decode cX9_passesOne 216 = .ok (.aload_n 0, 1) := by decide +kernel
theorem dX9_passesOne_217 : decode cX9_passesOne 217 = .ok (.getfield 13, 3) := by decide +kernel
theorem dX9_passesOne_220 : decode cX9_passesOne 220 = .ok (.iconst 0, 1) := by decide +kernel
theorem dX9_passesOne_221 : decode cX9_passesOne 221 = .ok (.aload_n 0, 1) := by decide +kernel
theorem dX9_passesOne_222 : decode cX9_passesOne 222 = .ok (.getfield 156, 3) := by decide +kernel
theorem dX9_passesOne_225 : decode cX9_passesOne 225 = .ok (.iastore, 1) := by decide +kernel
theorem dX9_passesOne_226 : decode cX9_passesOne 226 = .ok (.aload_n 0, 1) := by decide +kernel
theorem dX9_passesOne_227 : decode cX9_passesOne 227 = .ok (.getfield 36, 3) := by decide +kernel
theorem dX9_passesOne_230 : decode cX9_passesOne 230 = .ok (.aload_n 0, 1) := by decide +kernel
theorem dX9_passesOne_231 : decode cX9_passesOne 231 = .ok (.getfield 156, 3) := by decide +kernel
theorem dX9_passesOne_234 : decode cX9_passesOne 234 = .ok (.iconst 1, 1) := by decide +kernel
theorem dX9_passesOne_235 : decode cX9_passesOne 235 = .ok (.iastore, 1) := by decide +kernel
theorem dX9_passesOne_236 : decode cX9_passesOne 236 = .ok (.aload_n 0, 1) := by decide +kernel
theorem dX9_passesOne_237 : decode cX9_passesOne 237 = .ok (.dup, 1) := by decide +kernel
theorem dX9_passesOne_238 : decode cX9_passesOne 238 = .ok (.getfield 156, 3) := by decide +kernel
theorem dX9_passesOne_241 : decode cX9_passesOne 241 = .ok (.iconst 1, 1) := by decide +kernel
theorem dX9_passesOne_242 : decode cX9_passesOne 242 = .ok (.iadd, 1) := by decide +kernel
theorem dX9_passesOne_243 : decode cX9_passesOne 243 = .ok (.putfield 156, 3) := by decide +kernel
theorem dX9_passesOne_246 : decode cX9_passesOne 246 = .ok (.aload_n 0, 1) := by decide +kernel
theorem dX9_passesOne_247 : decode cX9_passesOne 247 = .ok (.getfield 129, 3) := by decide +kernel
theorem dX9_passesOne_250 : decode cX9_passesOne 250 = .ok (.iload_n 1, 1) := by decide +kernel
theorem dX9_passesOne_251 : decode cX9_passesOne 251 = .ok (.isub, 1) := by decide +kernel
theorem dX9_passesOne_252 : decode cX9_passesOne 252 = .ok (.ireturn, 1) := by decide +kernel
theorem dX9_pass_0 : decode cX9_pass 0 = .ok (.aload_n 0, 1) := by decide +kernel
theorem dX9_pass_1 : decode cX9_pass 1 = .ok (.iload_n 1, 1) := by decide +kernel
theorem dX9_pass_2 : decode cX9_pass 2 = .ok (.iconst 1, 1) := by decide +kernel
theorem dX9_pass_3 : decode cX9_pass 3 = .ok (.sipush 200, 3) := by decide +kernel
theorem dX9_pass_6 : decode cX9_pass 6 = .ok (.invokestatic 87, 3) := by decide +kernel
theorem dX9_pass_9 : decode cX9_pass 9 = .ok (.ifCond .eq 7, 3) := by decide +kernel
theorem dX9_pass_12 : decode cX9_pass 12 = .ok (.iconst 0, 1) := by decide +kernel
theorem dX9_pass_13 : decode cX9_pass 13 = .ok (.goto 4, 3) := by decide +kernel
theorem dX9_pass_16 : decode cX9_pass 16 = .ok (.iconst 1, 1) := by decide +kernel
theorem dX9_pass_17 : decode cX9_pass 17 = .ok (.invokevirtual 94, 3) := by decide +kernel
theorem dX9_pass_20 : decode cX9_pass 20 = .ok (.ifCond .ne 5, 3) := by decide +kernel
theorem dX9_pass_23 : decode cX9_pass 23 = .ok (.iconst 0, 1) := by decide +kernel
theorem dX9_pass_24 : decode cX9_pass 24 = .ok (.ireturn, 1) := by decide +kernel
theorem dX9_pass_25 : decode cX9_pass 25 = .ok (.iconst 0, 1) := by decide +kernel
theorem dX9_pass_26 : decode cX9_pass 26 = .ok (.istore_n 2, 1) := by decide +kernel
theorem dX9_pass_27 : decode cX9_pass 27 = .ok (.iconst 0, 1) := by decide +kernel
theorem dX9_pass_28 : decode cX9_pass 28 = .ok (.istore_n 3, 1) := by decide +kernel
theorem dX9_pass_29 : decode cX9_pass 29 = .ok (.iload_n 3, 1) := by decide +kernel
theorem dX9_pass_30 : decode cX9_pass 30 = .ok (.iload_n 1, 1) := by decide +kernel
theorem dX9_pass_31 : decode cX9_pass 31 = .ok (.if_icmp .ge 16, 3) := by decide +kernel
theorem dX9_pass_34 : decode cX9_pass 34 = .ok (.iload_n 2, 1) := by decide +kernel
theorem dX9_pass_35 : decode cX9_pass 35 = .ok (.aload_n 0, 1) := by decide +kernel
theorem dX9_pass_36 : decode cX9_pass 36 = .ok (.invokevirtual 159, 3) := by decide +kernel
theorem dX9_pass_39 : decode cX9_pass 39 = .ok (.iadd, 1) := by decide +kernel
theorem dX9_pass_40 : decode cX9_pass 40 = .ok (.istore_n 2, 1) := by decide +kernel
theorem dX9_pass_41 : decode cX9_pass 41 = .ok (.iinc 3 1, 3) := by decide +kernel
theorem dX9_pass_44 : decode cX9_pass 44 = .ok (.goto (-15), 3) := by decide +kernel
theorem dX9_pass_47 : decode cX9_pass 47 = .ok (.iload_n 2, 1) := by decide +kernel
theorem dX9_pass_48 : decode cX9_pass 48 = .ok (.ireturn, 1) := by decide +kernel
theorem dX9_looksOne_0 : decode cX9_looksOne 0 = .ok (.iconst 0, 1) := by decide +kernel
theorem dX9_looksOne_1 : decode cX9_looksOne 1 = .ok (.istore_n 1, 1) := by decide +kernel
theorem dX9_looksOne_2 : decode cX9_looksOne 2 = .ok (.aload_n 0, 1) := by decide +kernel
theorem dX9_looksOne_3 : decode cX9_looksOne 3 = .ok (.invokevirtual 139, 3) := by decide +kernel
theorem dX9_looksOne_6 : decode cX9_looksOne 6 = .ok (.iconst 0, 1) := by decide +kernel
theorem dX9_looksOne_7 : decode cX9_looksOne 7 = .ok (.istore_n 2, 1) := by decide +kernel
theorem dX9_looksOne_8 : decode cX9_looksOne 8 = .ok (.iload_n 2, 1) := by decide +kernel
theorem dX9_looksOne_9 : decode cX9_looksOne 9 = .ok (.aload_n 0, 1) := by decide +kernel
theorem dX9_looksOne_10 : decode cX9_looksOne 10 = .ok (.getfield 84, 3) := by decide +kernel
theorem dX9_looksOne_13 : decode cX9_looksOne 13 = .ok (.if_icmp .ge 42, 3) := by decide +kernel
theorem dX9_looksOne_16 : decode cX9_looksOne 16 = .ok (.aload_n 0, 1) := by decide +kernel
theorem dX9_looksOne_17 : decode cX9_looksOne 17 = .ok (.iload_n 2, 1) := by decide +kernel
theorem dX9_looksOne_18 : decode cX9_looksOne 18 = .ok (.invokevirtual 142, 3) := by decide +kernel
theorem dX9_looksOne_21 : decode cX9_looksOne 21 = .ok (.ifCond .eq 28, 3) := by decide +kernel
theorem dX9_looksOne_24 : decode cX9_looksOne 24 = .ok (.aload_n 0, 1) := by decide +kernel
theorem dX9_looksOne_25 : decode cX9_looksOne 25 = .ok (.getfield 13, 3) := by decide +kernel
theorem dX9_looksOne_28 : decode cX9_looksOne 28 = .ok (.aload_n 0, 1) := by decide +kernel
theorem dX9_looksOne_29 : decode cX9_looksOne 29 = .ok (.getfield 17, 3) := by decide +kernel
theorem dX9_looksOne_32 : decode cX9_looksOne 32 = .ok (.iload_n 2, 1) := by decide +kernel
theorem dX9_looksOne_33 : decode cX9_looksOne 33 = .ok (.iaload, 1) := by decide +kernel
theorem dX9_looksOne_34 : decode cX9_looksOne 34 = .ok (.iconst (-1), 1) := by decide +kernel
theorem dX9_looksOne_35 : decode cX9_looksOne 35 = .ok (.iastore, 1) := by decide +kernel
theorem dX9_looksOne_36 : decode cX9_looksOne 36 = .ok (.aload_n 0, 1) := by decide +kernel
theorem dX9_looksOne_37 : decode cX9_looksOne 37 = .ok (.getfield 45, 3) := by decide +kernel
theorem dX9_looksOne_40 : decode cX9_looksOne 40 = .ok (.iload_n 2, 1) := by decide +kernel
theorem dX9_looksOne_41 : decode cX9_looksOne 41 = .ok (.dup2, 1) := by decide +kernel
theorem dX9_looksOne_42 : decode cX9_looksOne 42 = .ok (.iaload, 1) := by decide +kernel
theorem dX9_looksOne_43 : decode cX9_looksOne 43 = .ok (.iconst 1, 1) := by decide +kernel
theorem dX9_looksOne_44 : decode cX9_looksOne 44 = .ok (.iadd, 1) := by decide +kernel
theorem dX9_looksOne_45 : decode cX9_looksOne 45 = .ok (.iastore, 1) := by decide +kernel
theorem dX9_looksOne_46 : decode cX9_looksOne 46 = .ok (.iinc 1 1, 3) := by decide +kernel
theorem dX9_looksOne_49 : decode cX9_looksOne 49 = .ok (.iinc 2 1, 3) := by decide +kernel
theorem dX9_looksOne_52 : decode cX9_looksOne 52 = .ok (.goto (-44), 3) := by decide +kernel
theorem dX9_looksOne_55 : decode cX9_looksOne 55 = .ok (.aload_n 0, 1) := by decide +kernel
theorem dX9_looksOne_56 : decode cX9_looksOne 56 = .ok (.invokevirtual 149, 3) := by decide +kernel
theorem dX9_looksOne_59 : decode cX9_looksOne 59 = .ok (.ifCond .eq 18, 3) := by decide +kernel
theorem dX9_looksOne_62 : decode cX9_looksOne 62 = .ok (.aload_n 0, 1) := by decide +kernel
theorem dX9_looksOne_63 : decode cX9_looksOne 63 = .ok (.getfield 13, 3) := by decide +kernel
theorem dX9_looksOne_66 : decode cX9_looksOne 66 = .ok (.aload_n 0, 1) := by decide +kernel
theorem dX9_looksOne_67 : decode cX9_looksOne 67 = .ok (.getfield 7, 3) := by decide +kernel
theorem dX9_looksOne_70 : decode cX9_looksOne 70 = .ok (.iconst 1, 1) := by decide +kernel
theorem dX9_looksOne_71 : decode cX9_looksOne 71 = .ok (.isub, 1) := by decide +kernel
theorem dX9_looksOne_72 : decode cX9_looksOne 72 = .ok (.iconst (-1), 1) := by decide +kernel
theorem dX9_looksOne_73 : decode cX9_looksOne 73 = .ok (.iastore, 1) := by decide +kernel
theorem dX9_looksOne_74 : decode cX9_looksOne 74 = .ok (.iinc 1 1, 3) := by decide +kernel
theorem dX9_looksOne_77 : decode cX9_looksOne 77 = .ok (.aload_n 0, 1) := by decide +kernel
theorem dX9_looksOne_78 : decode cX9_looksOne 78 = .ok (.getfield 105, 3) := by decide +kernel
theorem dX9_looksOne_81 : decode cX9_looksOne 81 = .ok (.ifCond .ne 44, 3) := by decide +kernel
theorem dX9_looksOne_84 : decode cX9_looksOne 84 = .ok (.aload_n 0, 1) := by decide +kernel
theorem dX9_looksOne_85 : decode cX9_looksOne 85 = .ok (.getfield 13, 3) := by decide +kernel
theorem dX9_looksOne_88 : decode cX9_looksOne 88 = .ok (.iconst 0, 1) := by decide +kernel
theorem dX9_looksOne_89 : decode cX9_looksOne 89 = .ok (.iaload, 1) := by decide +kernel
theorem dX9_looksOne_90 : decode cX9_looksOne 90 = .ok (.iconst (-1), 1) := by decide +kernel
theorem dX9_looksOne_91 : decode cX9_looksOne 91 = .ok (.if_icmp .ne 34, 3) := by decide +kernel
theorem dX9_looksOne_94 : decode cX9_looksOne 94 = .ok (.aload_n 0, 1) := by decide +kernel
theorem dX9_looksOne_95 : decode cX9_looksOne 95 = .ok (.getfield 156, 3) := by decide +kernel
theorem dX9_looksOne_98 : decode cX9_looksOne 98 = .ok (.aload_n 0, 1) := by decide +kernel
theorem dX9_looksOne_99 : decode cX9_looksOne 99 = .ok (.getfield 91, 3) := by decide +kernel
theorem dX9_looksOne_102 : decode cX9_looksOne 102 = .ok (.if_icmp .ge 23, 3) := by decide +kernel
theorem dX9_looksOne_105 : decode cX9_looksOne 105 = .ok (.aload_n 0, 1) := by decide +kernel
theorem dX9_looksOne_106 : decode cX9_looksOne 106 = .ok (.getfield 13, 3) := by decide +kernel
theorem dX9_looksOne_109 : decode cX9_looksOne 109 = .ok (.iconst 0, 1) := by decide +kernel
theorem dX9_looksOne_110 : decode cX9_looksOne 110 = .ok (.aload_n 0, 1) := by decide +kernel
theorem dX9_looksOne_111 : decode cX9_looksOne 111 = .ok (.getfield 156, 3) := by decide +kernel
theorem dX9_looksOne_114 : decode cX9_looksOne 114 = .ok (.iastore, 1) := by decide +kernel
theorem dX9_looksOne_115 : decode cX9_looksOne 115 = .ok (.aload_n 0, 1) := by decide +kernel
theorem dX9_looksOne_116 : decode cX9_looksOne 116 = .ok (.dup, 1) := by decide +kernel
theorem dX9_looksOne_117 : decode cX9_looksOne 117 = .ok (.getfield 156, 3) := by decide +kernel
theorem dX9_looksOne_120 : decode cX9_looksOne 120 = .ok (.iconst 1, 1) := by decide +kernel
theorem dX9_looksOne_121 : decode cX9_looksOne 121 = .ok (.iadd, 1) := by decide +kernel
theorem dX9_looksOne_122 : decode cX9_looksOne 122 = .ok (.putfield 156, 3) := by decide +kernel
theorem dX9_looksOne_125 : decode cX9_looksOne 125 = .ok (.iload_n 1, 1) := by decide +kernel
theorem dX9_looksOne_126 : decode cX9_looksOne 126 = .ok (.ireturn, 1) := by decide +kernel
theorem dX9_leavingAhead_0 : decode cX9_leavingAhead 0 = .ok (.aload_n 0, 1) := by decide +kernel
theorem dX9_leavingAhead_1 : decode cX9_leavingAhead 1 = .ok (.iload_n 1, 1) := by decide +kernel
theorem dX9_leavingAhead_2 : decode cX9_leavingAhead 2 = .ok (.iconst 1, 1) := by decide +kernel
theorem dX9_leavingAhead_3 : decode cX9_leavingAhead 3 = .ok (.sipush 200, 3) := by decide +kernel
theorem dX9_leavingAhead_6 : decode cX9_leavingAhead 6 = .ok (.invokestatic 87, 3) := by decide +kernel
theorem dX9_leavingAhead_9 : decode cX9_leavingAhead 9 = .ok (.ifCond .eq 7, 3) := by decide +kernel
theorem dX9_leavingAhead_12 : decode cX9_leavingAhead 12 = .ok (.iconst 0, 1) := by decide +kernel
theorem dX9_leavingAhead_13 : decode cX9_leavingAhead 13 = .ok (.goto 4, 3) := by decide +kernel
theorem dX9_leavingAhead_16 : decode cX9_leavingAhead 16 = .ok (.iconst 1, 1) := by decide +kernel
theorem dX9_leavingAhead_17 : decode cX9_leavingAhead 17 = .ok (.invokevirtual 94, 3) := by decide +kernel
theorem dX9_leavingAhead_20 : decode cX9_leavingAhead 20 = .ok (.ifCond .ne 5, 3) := by decide +kernel
theorem dX9_leavingAhead_23 : decode cX9_leavingAhead 23 = .ok (.iconst 0, 1) := by decide +kernel
theorem dX9_leavingAhead_24 : decode cX9_leavingAhead 24 = .ok (.ireturn, 1) := by decide +kernel
theorem dX9_leavingAhead_25 : decode cX9_leavingAhead 25 = .ok (.aload_n 0, 1) := by decide +kernel
theorem dX9_leavingAhead_26 : decode cX9_leavingAhead 26 = .ok (.getfield 156, 3) := by decide +kernel
theorem dX9_leavingAhead_29 : decode cX9_leavingAhead 29 = .ok (.istore_n 2, 1) := by decide +kernel
theorem dX9_leavingAhead_30 : decode cX9_leavingAhead 30 = .ok (.iconst 0, 1) := by decide +kernel
theorem dX9_leavingAhead_31 : decode cX9_leavingAhead 31 = .ok (.istore_n 3, 1) := by decide +kernel
theorem dX9_leavingAhead_32 : decode cX9_leavingAhead 32 = .ok (.iload_n 3, 1) := by decide +kernel
theorem dX9_leavingAhead_33 : decode cX9_leavingAhead 33 = .ok (.aload_n 0, 1) := by decide +kernel
theorem dX9_leavingAhead_34 : decode cX9_leavingAhead 34 = .ok (.getfield 7, 3) := by decide +kernel
theorem dX9_leavingAhead_37 : decode cX9_leavingAhead 37 = .ok (.if_icmp .ge 21, 3) := by decide +kernel
theorem dX9_leavingAhead_40 : decode cX9_leavingAhead 40 = .ok (.aload_n 0, 1) := by decide +kernel
theorem dX9_leavingAhead_41 : decode cX9_leavingAhead 41 = .ok (.getfield 66, 3) := by decide +kernel
theorem dX9_leavingAhead_44 : decode cX9_leavingAhead 44 = .ok (.iload_n 3, 1) := by decide +kernel
theorem dX9_leavingAhead_45 : decode cX9_leavingAhead 45 = .ok (.aload_n 0, 1) := by decide +kernel
theorem dX9_leavingAhead_46 : decode cX9_leavingAhead 46 = .ok (.getfield 13, 3) := by decide +kernel
theorem dX9_leavingAhead_49 : decode cX9_leavingAhead 49 = .ok (.iload_n 3, 1) := by decide +kernel
theorem dX9_leavingAhead_50 : decode cX9_leavingAhead 50 = .ok (.iaload, 1) := by decide +kernel
theorem dX9_leavingAhead_51 : decode cX9_leavingAhead 51 = .ok (.iastore, 1) := by decide +kernel
theorem dX9_leavingAhead_52 : decode cX9_leavingAhead 52 = .ok (.iinc 3 1, 3) := by decide +kernel
theorem dX9_leavingAhead_55 : decode cX9_leavingAhead 55 = .ok (.goto (-23), 3) := by decide +kernel
theorem dX9_leavingAhead_58 : decode cX9_leavingAhead 58 = .ok (.iconst 0, 1) := by decide +kernel
theorem dX9_leavingAhead_59 : decode cX9_leavingAhead 59 = .ok (.istore_n 3, 1) := by decide +kernel
theorem dX9_leavingAhead_60 : decode cX9_leavingAhead 60 = .ok (.iload_n 3, 1) := by decide +kernel
theorem dX9_leavingAhead_61 : decode cX9_leavingAhead 61 = .ok (.aload_n 0, 1) := by decide +kernel
theorem dX9_leavingAhead_62 : decode cX9_leavingAhead 62 = .ok (.getfield 91, 3) := by decide +kernel
theorem dX9_leavingAhead_65 : decode cX9_leavingAhead 65 = .ok (.if_icmp .ge 21, 3) := by decide +kernel
theorem dX9_leavingAhead_68 : decode cX9_leavingAhead 68 = .ok (.aload_n 0, 1) := by decide +kernel
theorem dX9_leavingAhead_69 : decode cX9_leavingAhead 69 = .ok (.getfield 69, 3) := by decide +kernel
theorem dX9_leavingAhead_72 : decode cX9_leavingAhead 72 = .ok (.iload_n 3, 1) := by decide +kernel
theorem dX9_leavingAhead_73 : decode cX9_leavingAhead 73 = .ok (.aload_n 0, 1) := by decide +kernel
theorem dX9_leavingAhead_74 : decode cX9_leavingAhead 74 = .ok (.getfield 39, 3) := by decide +kernel
theorem dX9_leavingAhead_77 : decode cX9_leavingAhead 77 = .ok (.iload_n 3, 1) := by decide +kernel
theorem dX9_leavingAhead_78 : decode cX9_leavingAhead 78 = .ok (.iaload, 1) := by decide +kernel
theorem dX9_leavingAhead_79 : decode cX9_leavingAhead 79 = .ok (.iastore, 1) := by decide +kernel
theorem dX9_leavingAhead_80 : decode cX9_leavingAhead 80 = .ok (.iinc 3 1, 3) := by decide +kernel
theorem dX9_leavingAhead_83 : decode cX9_leavingAhead 83 = .ok (.goto (-23), 3) := by decide +kernel
theorem dX9_leavingAhead_86 : decode cX9_leavingAhead 86 = .ok (.iconst 0, 1) := by decide +kernel
theorem dX9_leavingAhead_87 : decode cX9_leavingAhead 87 = .ok (.istore_n 3, 1) := by decide +kernel
theorem dX9_leavingAhead_88 : decode cX9_leavingAhead 88 = .ok (.iload_n 3, 1) := by decide +kernel
theorem dX9_leavingAhead_89 : decode cX9_leavingAhead 89 = .ok (.aload_n 0, 1) := by decide +kernel
theorem dX9_leavingAhead_90 : decode cX9_leavingAhead 90 = .ok (.getfield 84, 3) := by decide +kernel
theorem dX9_leavingAhead_93 : decode cX9_leavingAhead 93 = .ok (.if_icmp .ge 21, 3) := by decide +kernel
theorem dX9_leavingAhead_96 : decode cX9_leavingAhead 96 = .ok (.aload_n 0, 1) := by decide +kernel
theorem dX9_leavingAhead_97 : decode cX9_leavingAhead 97 = .ok (.getfield 72, 3) := by decide +kernel
theorem dX9_leavingAhead_100 : decode cX9_leavingAhead 100 = .ok (.iload_n 3, 1) := by decide +kernel
theorem dX9_leavingAhead_101 : decode cX9_leavingAhead 101 = .ok (.aload_n 0, 1) := by decide +kernel
theorem dX9_leavingAhead_102 : decode cX9_leavingAhead 102 = .ok (.getfield 45, 3) := by decide +kernel
theorem dX9_leavingAhead_105 : decode cX9_leavingAhead 105 = .ok (.iload_n 3, 1) := by decide +kernel
theorem dX9_leavingAhead_106 : decode cX9_leavingAhead 106 = .ok (.iaload, 1) := by decide +kernel
theorem dX9_leavingAhead_107 : decode cX9_leavingAhead 107 = .ok (.iastore, 1) := by decide +kernel
theorem dX9_leavingAhead_108 : decode cX9_leavingAhead 108 = .ok (.iinc 3 1, 3) := by decide +kernel
theorem dX9_leavingAhead_111 : decode cX9_leavingAhead 111 = .ok (.goto (-23), 3) := by decide +kernel
theorem dX9_leavingAhead_114 : decode cX9_leavingAhead 114 = .ok (.iconst 0, 1) := by decide +kernel
theorem dX9_leavingAhead_115 : decode cX9_leavingAhead 115 = .ok (.istore_n 3, 1) := by decide +kernel
theorem dX9_leavingAhead_116 : decode cX9_leavingAhead 116 = .ok (.iconst 0, 1) := by decide +kernel
theorem dX9_leavingAhead_117 : decode cX9_leavingAhead 117 = .ok (.istore 4, 2) := by decide +kernel
theorem dX9_leavingAhead_119 : decode cX9_leavingAhead 119 = .ok (.iload 4, 2) := by decide +kernel
theorem dX9_leavingAhead_121 : decode cX9_leavingAhead 121 = .ok (.iload_n 1, 1) := by decide +kernel
theorem dX9_leavingAhead_122 : decode cX9_leavingAhead 122 = .ok (.if_icmp .ge 16, 3) := by decide +kernel
theorem dX9_leavingAhead_125 : decode cX9_leavingAhead 125 = .ok (.iload_n 3, 1) := by decide +kernel
theorem dX9_leavingAhead_126 : decode cX9_leavingAhead 126 = .ok (.aload_n 0, 1) := by decide +kernel
theorem dX9_leavingAhead_127 : decode cX9_leavingAhead 127 = .ok (.invokevirtual 162, 3) := by decide +kernel
theorem dX9_leavingAhead_130 : decode cX9_leavingAhead 130 = .ok (.iadd, 1) := by decide +kernel
theorem dX9_leavingAhead_131 : decode cX9_leavingAhead 131 = .ok (.istore_n 3, 1) := by decide +kernel
theorem dX9_leavingAhead_132 : decode cX9_leavingAhead 132 = .ok (.iinc 4 1, 3) := by decide +kernel
theorem dX9_leavingAhead_135 : decode cX9_leavingAhead 135 = .ok (.goto (-16), 3) := by decide +kernel
theorem dX9_leavingAhead_138 : decode cX9_leavingAhead 138 = .ok (.aload_n 0, 1) := by decide +kernel
theorem dX9_leavingAhead_139 : decode cX9_leavingAhead 139 = .ok (.iload_n 2, 1) := by decide +kernel
theorem dX9_leavingAhead_140 : decode cX9_leavingAhead 140 = .ok (.putfield 156, 3) := by decide +kernel
theorem dX9_leavingAhead_143 : decode cX9_leavingAhead 143 = .ok (.iconst 0, 1) := by decide +kernel
theorem dX9_leavingAhead_144 : decode cX9_leavingAhead 144 = .ok (.istore 4, 2) := by decide +kernel
theorem dX9_leavingAhead_146 : decode cX9_leavingAhead 146 = .ok (.iload 4, 2) := by decide +kernel
theorem dX9_leavingAhead_148 : decode cX9_leavingAhead 148 = .ok (.aload_n 0, 1) := by decide +kernel
theorem dX9_leavingAhead_149 : decode cX9_leavingAhead 149 = .ok (.getfield 7, 3) := by decide +kernel
theorem dX9_leavingAhead_152 : decode cX9_leavingAhead 152 = .ok (.if_icmp .ge 23, 3) := by decide +kernel
theorem dX9_leavingAhead_155 : decode cX9_leavingAhead 155 = .ok (.aload_n 0, 1) := by decide +kernel
theorem dX9_leavingAhead_156 : decode cX9_leavingAhead 156 = .ok (.getfield 13, 3) := by decide +kernel
theorem dX9_leavingAhead_159 : decode cX9_leavingAhead 159 = .ok (.iload 4, 2) := by decide +kernel
theorem dX9_leavingAhead_161 : decode cX9_leavingAhead 161 = .ok (.aload_n 0, 1) := by decide +kernel
theorem dX9_leavingAhead_162 : decode cX9_leavingAhead 162 = .ok (.getfield 66, 3) := by decide +kernel
theorem dX9_leavingAhead_165 : decode cX9_leavingAhead 165 = .ok (.iload 4, 2) := by decide +kernel
theorem dX9_leavingAhead_167 : decode cX9_leavingAhead 167 = .ok (.iaload, 1) := by decide +kernel
theorem dX9_leavingAhead_168 : decode cX9_leavingAhead 168 = .ok (.iastore, 1) := by decide +kernel
theorem dX9_leavingAhead_169 : decode cX9_leavingAhead 169 = .ok (.iinc 4 1, 3) := by decide +kernel
theorem dX9_leavingAhead_172 : decode cX9_leavingAhead 172 = .ok (.goto (-26), 3) := by decide +kernel
theorem dX9_leavingAhead_175 : decode cX9_leavingAhead 175 = .ok (.iconst 0, 1) := by decide +kernel
theorem dX9_leavingAhead_176 : decode cX9_leavingAhead 176 = .ok (.istore 4, 2) := by decide +kernel
theorem dX9_leavingAhead_178 : decode cX9_leavingAhead 178 = .ok (.iload 4, 2) := by decide +kernel
theorem dX9_leavingAhead_180 : decode cX9_leavingAhead 180 = .ok (.aload_n 0, 1) := by decide +kernel
theorem dX9_leavingAhead_181 : decode cX9_leavingAhead 181 = .ok (.getfield 91, 3) := by decide +kernel
theorem dX9_leavingAhead_184 : decode cX9_leavingAhead 184 = .ok (.if_icmp .ge 23, 3) := by decide +kernel
theorem dX9_leavingAhead_187 : decode cX9_leavingAhead 187 = .ok (.aload_n 0, 1) := by decide +kernel
theorem dX9_leavingAhead_188 : decode cX9_leavingAhead 188 = .ok (.getfield 39, 3) := by decide +kernel
theorem dX9_leavingAhead_191 : decode cX9_leavingAhead 191 = .ok (.iload 4, 2) := by decide +kernel
theorem dX9_leavingAhead_193 : decode cX9_leavingAhead 193 = .ok (.aload_n 0, 1) := by decide +kernel
theorem dX9_leavingAhead_194 : decode cX9_leavingAhead 194 = .ok (.getfield 69, 3) := by decide +kernel
theorem dX9_leavingAhead_197 : decode cX9_leavingAhead 197 = .ok (.iload 4, 2) := by decide +kernel
theorem dX9_leavingAhead_199 : decode cX9_leavingAhead 199 = .ok (.iaload, 1) := by decide +kernel
theorem dX9_leavingAhead_200 : decode cX9_leavingAhead 200 = .ok (.iastore, 1) := by decide +kernel
theorem dX9_leavingAhead_201 : decode cX9_leavingAhead 201 = .ok (.iinc 4 1, 3) := by decide +kernel
theorem dX9_leavingAhead_204 : decode cX9_leavingAhead 204 = .ok (.goto (-26), 3) := by decide +kernel
theorem dX9_leavingAhead_207 : decode cX9_leavingAhead 207 = .ok (.iconst 0, 1) := by decide +kernel
theorem dX9_leavingAhead_208 : decode cX9_leavingAhead 208 = .ok (.istore 4, 2) := by decide +kernel
theorem dX9_leavingAhead_210 : decode cX9_leavingAhead 210 = .ok (.iload 4, 2) := by decide +kernel
theorem dX9_leavingAhead_212 : decode cX9_leavingAhead 212 = .ok (.aload_n 0, 1) := by decide +kernel
theorem dX9_leavingAhead_213 : decode cX9_leavingAhead 213 = .ok (.getfield 84, 3) := by decide +kernel
theorem dX9_leavingAhead_216 : decode cX9_leavingAhead 216 = .ok (.if_icmp .ge 23, 3) := by decide +kernel
theorem dX9_leavingAhead_219 : decode cX9_leavingAhead 219 = .ok (.aload_n 0, 1) := by decide +kernel
theorem dX9_leavingAhead_220 : decode cX9_leavingAhead 220 = .ok (.getfield 45, 3) := by decide +kernel
theorem dX9_leavingAhead_223 : decode cX9_leavingAhead 223 = .ok (.iload 4, 2) := by decide +kernel
theorem dX9_leavingAhead_225 : decode cX9_leavingAhead 225 = .ok (.aload_n 0, 1) := by decide +kernel
theorem dX9_leavingAhead_226 : decode cX9_leavingAhead 226 = .ok (.getfield 72, 3) := by decide +kernel
theorem dX9_leavingAhead_229 : decode cX9_leavingAhead 229 = .ok (.iload 4, 2) := by decide +kernel
theorem dX9_leavingAhead_231 : decode cX9_leavingAhead 231 = .ok (.iaload, 1) := by decide +kernel
theorem dX9_leavingAhead_232 : decode cX9_leavingAhead 232 = .ok (.iastore, 1) := by decide +kernel
theorem dX9_leavingAhead_233 : decode cX9_leavingAhead 233 = .ok (.iinc 4 1, 3) := by decide +kernel
theorem dX9_leavingAhead_236 : decode cX9_leavingAhead 236 = .ok (.goto (-26), 3) := by decide +kernel
theorem dX9_leavingAhead_239 : decode cX9_leavingAhead 239 = .ok (.iload_n 3, 1) := by decide +kernel
theorem dX9_leavingAhead_240 : decode cX9_leavingAhead 240 = .ok (.ireturn, 1) := by decide +kernel
theorem dX9_leavingByTrays_0 : decode cX9_leavingByTrays 0 = .ok (.aload_n 0, 1) := by decide +kernel
theorem dX9_leavingByTrays_1 : decode cX9_leavingByTrays 1 = .ok (.iload_n 1, 1) := by decide +kernel
theorem dX9_leavingByTrays_2 : decode cX9_leavingByTrays 2 = .ok (.invokevirtual 165, 3) := by decide +kernel
theorem dX9_leavingByTrays_5 : decode cX9_leavingByTrays 5 = .ok (.ireturn, 1) := by decide +kernel
theorem dX9_arrive_0 : decode cX9_arrive 0 = .ok (.iload_n 1, 1) := by decide +kernel
theorem dX9_arrive_1 : decode cX9_arrive 1 = .ok (.iconst 0, 1) := by decide +kernel
theorem dX9_arrive_2 : decode cX9_arrive 2 = .ok (.bipush 7, 2) := by decide +kernel
theorem dX9_arrive_4 : decode cX9_arrive 4 = .ok (.invokestatic 87, 3) := by decide +kernel
theorem dX9_arrive_7 : decode cX9_arrive 7 = .ok (.ifCond .eq 13, 3) := by decide +kernel
theorem dX9_arrive_10 : decode cX9_arrive 10 = .ok (.iload_n 2, 1) := by decide +kernel
theorem dX9_arrive_11 : decode cX9_arrive 11 = .ok (.iconst 1, 1) := by decide +kernel
theorem dX9_arrive_12 : decode cX9_arrive 12 = .ok (.bipush 9, 2) := by decide +kernel
theorem dX9_arrive_14 : decode cX9_arrive 14 = .ok (.invokestatic 87, 3) := by decide +kernel
theorem dX9_arrive_17 : decode cX9_arrive 17 = .ok (.ifCond .ne 7, 3) := by decide +kernel
theorem dX9_arrive_20 : decode cX9_arrive 20 = .ok (.iconst 1, 1) := by decide +kernel
theorem dX9_arrive_21 : decode cX9_arrive 21 = .ok (.goto 18, 3) := by decide +kernel
theorem dX9_arrive_24 : decode cX9_arrive 24 = .ok (.aload_n 0, 1) := by decide +kernel
theorem dX9_arrive_25 : decode cX9_arrive 25 = .ok (.getfield 91, 3) := by decide +kernel
theorem dX9_arrive_28 : decode cX9_arrive 28 = .ok (.sipush 300, 3) := by decide +kernel
theorem dX9_arrive_31 : decode cX9_arrive 31 = .ok (.if_icmp .ne 7, 3) := by decide +kernel
theorem dX9_arrive_34 : decode cX9_arrive 34 = .ok (.iconst 2, 1) := by decide +kernel
theorem dX9_arrive_35 : decode cX9_arrive 35 = .ok (.goto 4, 3) := by decide +kernel
theorem dX9_arrive_38 : decode cX9_arrive 38 = .ok (.iconst 0, 1) := by decide +kernel
theorem dX9_arrive_39 : decode cX9_arrive 39 = .ok (.istore_n 3, 1) := by decide +kernel
theorem dX9_arrive_40 : decode cX9_arrive 40 = .ok (.aload_n 0, 1) := by decide +kernel
theorem dX9_arrive_41 : decode cX9_arrive 41 = .ok (.iload_n 3, 1) := by decide +kernel
theorem dX9_arrive_42 : decode cX9_arrive 42 = .ok (.invokevirtual 94, 3) := by decide +kernel
theorem dX9_arrive_45 : decode cX9_arrive 45 = .ok (.ifCond .ne 5, 3) := by decide +kernel
theorem dX9_arrive_48 : decode cX9_arrive 48 = .ok (.iconst 0, 1) := by decide +kernel
theorem dX9_arrive_49 : decode cX9_arrive 49 = .ok (.ireturn, 1) := by decide +kernel
theorem dX9_arrive_50 : decode cX9_arrive 50 = .ok (.aload_n 0, 1) := by decide +kernel
theorem dX9_arrive_51 : decode cX9_arrive 51 = .ok (.getfield 30, 3) := by decide +kernel
theorem dX9_arrive_54 : decode cX9_arrive 54 = .ok (.aload_n 0, 1) := by decide +kernel
theorem dX9_arrive_55 : decode cX9_arrive 55 = .ok (.getfield 91, 3) := by decide +kernel
theorem dX9_arrive_58 : decode cX9_arrive 58 = .ok (.iload_n 1, 1) := by decide +kernel
theorem dX9_arrive_59 : decode cX9_arrive 59 = .ok (.iastore, 1) := by decide +kernel
theorem dX9_arrive_60 : decode cX9_arrive 60 = .ok (.aload_n 0, 1) := by decide +kernel
theorem dX9_arrive_61 : decode cX9_arrive 61 = .ok (.getfield 33, 3) := by decide +kernel
theorem dX9_arrive_64 : decode cX9_arrive 64 = .ok (.aload_n 0, 1) := by decide +kernel
theorem dX9_arrive_65 : decode cX9_arrive 65 = .ok (.getfield 91, 3) := by decide +kernel
theorem dX9_arrive_68 : decode cX9_arrive 68 = .ok (.iload_n 2, 1) := by decide +kernel
theorem dX9_arrive_69 : decode cX9_arrive 69 = .ok (.iastore, 1) := by decide +kernel
theorem dX9_arrive_70 : decode cX9_arrive 70 = .ok (.aload_n 0, 1) := by decide +kernel
theorem dX9_arrive_71 : decode cX9_arrive 71 = .ok (.dup, 1) := by decide +kernel
theorem dX9_arrive_72 : decode cX9_arrive 72 = .ok (.getfield 91, 3) := by decide +kernel
theorem dX9_arrive_75 : decode cX9_arrive 75 = .ok (.iconst 1, 1) := by decide +kernel
theorem dX9_arrive_76 : decode cX9_arrive 76 = .ok (.iadd, 1) := by decide +kernel
theorem dX9_arrive_77 : decode cX9_arrive 77 = .ok (.putfield 91, 3) := by decide +kernel
theorem dX9_arrive_80 : decode cX9_arrive 80 = .ok (.aload_n 0, 1) := by decide +kernel
theorem dX9_arrive_81 : decode cX9_arrive 81 = .ok (.getfield 91, 3) := by decide +kernel
theorem dX9_arrive_84 : decode cX9_arrive 84 = .ok (.iconst 1, 1) := by decide +kernel
theorem dX9_arrive_85 : decode cX9_arrive 85 = .ok (.isub, 1) := by decide +kernel
theorem dX9_arrive_86 : decode cX9_arrive 86 = .ok (.ireturn, 1) := by decide +kernel
theorem dX9_tick_0 : decode cX9_tick 0 = .ok (.aload_n 0, 1) := by decide +kernel
theorem dX9_tick_1 : decode cX9_tick 1 = .ok (.iconst 0, 1) := by decide +kernel
theorem dX9_tick_2 : decode cX9_tick 2 = .ok (.putfield 81, 3) := by decide +kernel
theorem dX9_tick_5 : decode cX9_tick 5 = .ok (.aload_n 0, 1) := by decide +kernel
theorem dX9_tick_6 : decode cX9_tick 6 = .ok (.getfield 135, 3) := by decide +kernel
theorem dX9_tick_9 : decode cX9_tick 9 = .ok (.lreturn, 1) := by decide +kernel
theorem dX9_stateOf_0 : decode cX9_stateOf 0 = .ok (.aload_n 0, 1) := by decide +kernel
theorem dX9_stateOf_1 : decode cX9_stateOf 1 = .ok (.aload_n 0, 1) := by decide +kernel
theorem dX9_stateOf_2 : decode cX9_stateOf 2 = .ok (.iload_n 1, 1) := by decide +kernel
theorem dX9_stateOf_3 : decode cX9_stateOf 3 = .ok (.invokevirtual 168, 3) := by decide +kernel
theorem dX9_stateOf_6 : decode cX9_stateOf 6 = .ok (.ifCond .eq 7, 3) := by decide +kernel
theorem dX9_stateOf_9 : decode cX9_stateOf 9 = .ok (.iconst 0, 1) := by decide +kernel
theorem dX9_stateOf_10 : decode cX9_stateOf 10 = .ok (.goto 4, 3) := by decide +kernel
theorem dX9_stateOf_13 : decode cX9_stateOf 13 = .ok (.iconst 1, 1) := by decide +kernel
theorem dX9_stateOf_14 : decode cX9_stateOf 14 = .ok (.invokevirtual 94, 3) := by decide +kernel
theorem dX9_stateOf_17 : decode cX9_stateOf 17 = .ok (.ifCond .ne 5, 3) := by decide +kernel
theorem dX9_stateOf_20 : decode cX9_stateOf 20 = .ok (.iconst 0, 1) := by decide +kernel
theorem dX9_stateOf_21 : decode cX9_stateOf 21 = .ok (.ireturn, 1) := by decide +kernel
theorem dX9_stateOf_22 : decode cX9_stateOf 22 = .ok (.aload_n 0, 1) := by decide +kernel
theorem dX9_stateOf_23 : decode cX9_stateOf 23 = .ok (.getfield 36, 3) := by decide +kernel
theorem dX9_stateOf_26 : decode cX9_stateOf 26 = .ok (.iload_n 1, 1) := by decide +kernel
theorem dX9_stateOf_27 : decode cX9_stateOf 27 = .ok (.iaload, 1) := by decide +kernel
theorem dX9_stateOf_28 : decode cX9_stateOf 28 = .ok (.istore_n 2, 1) := by decide +kernel
theorem dX9_stateOf_29 : decode cX9_stateOf 29 = .ok (.iload_n 2, 1) := by decide +kernel
theorem dX9_stateOf_30 : decode cX9_stateOf 30 = .ok (.ifCond .ne 8, 3) := by decide +kernel
theorem dX9_stateOf_33 : decode cX9_stateOf 33 = .ok (.bipush 119, 2) := by decide +kernel
theorem dX9_stateOf_35 : decode cX9_stateOf 35 = .ok (.goto 35, 3) := by decide +kernel
theorem dX9_stateOf_38 : decode cX9_stateOf 38 = .ok (.iload_n 2, 1) := by decide +kernel
theorem dX9_stateOf_39 : decode cX9_stateOf 39 = .ok (.iconst 1, 1) := by decide +kernel
theorem dX9_stateOf_40 : decode cX9_stateOf 40 = .ok (.if_icmp .ne 8, 3) := by decide +kernel
theorem dX9_stateOf_43 : decode cX9_stateOf 43 = .ok (.bipush 108, 2) := by decide +kernel
theorem dX9_stateOf_45 : decode cX9_stateOf 45 = .ok (.goto 25, 3) := by decide +kernel
theorem dX9_stateOf_48 : decode cX9_stateOf 48 = .ok (.iload_n 2, 1) := by decide +kernel
theorem dX9_stateOf_49 : decode cX9_stateOf 49 = .ok (.iconst 2, 1) := by decide +kernel
theorem dX9_stateOf_50 : decode cX9_stateOf 50 = .ok (.if_icmp .ne 8, 3) := by decide +kernel
theorem dX9_stateOf_53 : decode cX9_stateOf 53 = .ok (.bipush 99, 2) := by decide +kernel
theorem dX9_stateOf_55 : decode cX9_stateOf 55 = .ok (.goto 15, 3) := by decide +kernel
theorem dX9_stateOf_58 : decode cX9_stateOf 58 = .ok (.iload_n 2, 1) := by decide +kernel
theorem dX9_stateOf_59 : decode cX9_stateOf 59 = .ok (.iconst 3, 1) := by decide +kernel
theorem dX9_stateOf_60 : decode cX9_stateOf 60 = .ok (.if_icmp .ne 8, 3) := by decide +kernel
theorem dX9_stateOf_63 : decode cX9_stateOf 63 = .ok (.bipush 116, 2) := by decide +kernel
theorem dX9_stateOf_65 : decode cX9_stateOf 65 = .ok (.goto 5, 3) := by decide +kernel
theorem dX9_stateOf_68 : decode cX9_stateOf 68 = .ok (.bipush 111, 2) := by decide +kernel
theorem dX9_stateOf_70 : decode cX9_stateOf 70 = .ok (.ireturn, 1) := by decide +kernel
theorem dX9_positionIn_0 : decode cX9_positionIn 0 = .ok (.iconst 0, 1) := by decide +kernel
theorem dX9_positionIn_1 : decode cX9_positionIn 1 = .ok (.istore_n 2, 1) := by decide +kernel
theorem dX9_positionIn_2 : decode cX9_positionIn 2 = .ok (.aload_n 0, 1) := by decide +kernel
theorem dX9_positionIn_3 : decode cX9_positionIn 3 = .ok (.getfield 13, 3) := by decide +kernel
theorem dX9_positionIn_6 : decode cX9_positionIn 6 = .ok (.iload_n 2, 1) := by decide +kernel
theorem dX9_positionIn_7 : decode cX9_positionIn 7 = .ok (.iaload, 1) := by decide +kernel
theorem dX9_positionIn_8 : decode cX9_positionIn 8 = .ok (.iload_n 1, 1) := by decide +kernel
theorem dX9_positionIn_9 : decode cX9_positionIn 9 = .ok (.if_icmp .eq 9, 3) := by decide +kernel
theorem dX9_positionIn_12 : decode cX9_positionIn 12 = .ok (.iinc 2 1, 3) := by decide +kernel
theorem dX9_positionIn_15 : decode cX9_positionIn 15 = .ok (.goto (-13), 3) := by decide +kernel
theorem dX9_positionIn_18 : decode cX9_positionIn 18 = .ok (.iload_n 2, 1) := by decide +kernel
theorem dX9_positionIn_19 : decode cX9_positionIn 19 = .ok (.ireturn, 1) := by decide +kernel
theorem dX9_positionOf_0 : decode cX9_positionOf 0 = .ok (.aload_n 0, 1) := by decide +kernel
theorem dX9_positionOf_1 : decode cX9_positionOf 1 = .ok (.aload_n 0, 1) := by decide +kernel
theorem dX9_positionOf_2 : decode cX9_positionOf 2 = .ok (.iload_n 1, 1) := by decide +kernel
theorem dX9_positionOf_3 : decode cX9_positionOf 3 = .ok (.invokevirtual 168, 3) := by decide +kernel
theorem dX9_positionOf_6 : decode cX9_positionOf 6 = .ok (.ifCond .ne 7, 3) := by decide +kernel
theorem dX9_positionOf_9 : decode cX9_positionOf 9 = .ok (.iconst 1, 1) := by decide +kernel
theorem dX9_positionOf_10 : decode cX9_positionOf 10 = .ok (.goto 18, 3) := by decide +kernel
theorem dX9_positionOf_13 : decode cX9_positionOf 13 = .ok (.aload_n 0, 1) := by decide +kernel
theorem dX9_positionOf_14 : decode cX9_positionOf 14 = .ok (.getfield 36, 3) := by decide +kernel
theorem dX9_positionOf_17 : decode cX9_positionOf 17 = .ok (.iload_n 1, 1) := by decide +kernel
theorem dX9_positionOf_18 : decode cX9_positionOf 18 = .ok (.iaload, 1) := by decide +kernel
theorem dX9_positionOf_19 : decode cX9_positionOf 19 = .ok (.iconst 1, 1) := by decide +kernel
theorem dX9_positionOf_20 : decode cX9_positionOf 20 = .ok (.if_icmp .eq 7, 3) := by decide +kernel
theorem dX9_positionOf_23 : decode cX9_positionOf 23 = .ok (.iconst 2, 1) := by decide +kernel
theorem dX9_positionOf_24 : decode cX9_positionOf 24 = .ok (.goto 4, 3) := by decide +kernel
theorem dX9_positionOf_27 : decode cX9_positionOf 27 = .ok (.iconst 0, 1) := by decide +kernel
theorem dX9_positionOf_28 : decode cX9_positionOf 28 = .ok (.invokevirtual 94, 3) := by decide +kernel
theorem dX9_positionOf_31 : decode cX9_positionOf 31 = .ok (.ifCond .eq 11, 3) := by decide +kernel
theorem dX9_positionOf_34 : decode cX9_positionOf 34 = .ok (.aload_n 0, 1) := by decide +kernel
theorem dX9_positionOf_35 : decode cX9_positionOf 35 = .ok (.iload_n 1, 1) := by decide +kernel
theorem dX9_positionOf_36 : decode cX9_positionOf 36 = .ok (.invokevirtual 171, 3) := by decide +kernel
theorem dX9_positionOf_39 : decode cX9_positionOf 39 = .ok (.goto 4, 3) := by decide +kernel
theorem dX9_positionOf_42 : decode cX9_positionOf 42 = .ok (.iconst 0, 1) := by decide +kernel
theorem dX9_positionOf_43 : decode cX9_positionOf 43 = .ok (.ireturn, 1) := by decide +kernel
theorem dX9_roundsOf_0 : decode cX9_roundsOf 0 = .ok (.aload_n 0, 1) := by decide +kernel
theorem dX9_roundsOf_1 : decode cX9_roundsOf 1 = .ok (.aload_n 0, 1) := by decide +kernel
theorem dX9_roundsOf_2 : decode cX9_roundsOf 2 = .ok (.iload_n 1, 1) := by decide +kernel
theorem dX9_roundsOf_3 : decode cX9_roundsOf 3 = .ok (.invokevirtual 168, 3) := by decide +kernel
theorem dX9_roundsOf_6 : decode cX9_roundsOf 6 = .ok (.ifCond .ne 7, 3) := by decide +kernel
theorem dX9_roundsOf_9 : decode cX9_roundsOf 9 = .ok (.iconst 1, 1) := by decide +kernel
theorem dX9_roundsOf_10 : decode cX9_roundsOf 10 = .ok (.goto 17, 3) := by decide +kernel
theorem dX9_roundsOf_13 : decode cX9_roundsOf 13 = .ok (.aload_n 0, 1) := by decide +kernel
theorem dX9_roundsOf_14 : decode cX9_roundsOf 14 = .ok (.getfield 36, 3) := by decide +kernel
theorem dX9_roundsOf_17 : decode cX9_roundsOf 17 = .ok (.iload_n 1, 1) := by decide +kernel
theorem dX9_roundsOf_18 : decode cX9_roundsOf 18 = .ok (.iaload, 1) := by decide +kernel
theorem dX9_roundsOf_19 : decode cX9_roundsOf 19 = .ok (.ifCond .ne 7, 3) := by decide +kernel
theorem dX9_roundsOf_22 : decode cX9_roundsOf 22 = .ok (.iconst 2, 1) := by decide +kernel
theorem dX9_roundsOf_23 : decode cX9_roundsOf 23 = .ok (.goto 4, 3) := by decide +kernel
theorem dX9_roundsOf_26 : decode cX9_roundsOf 26 = .ok (.iconst 0, 1) := by decide +kernel
theorem dX9_roundsOf_27 : decode cX9_roundsOf 27 = .ok (.invokevirtual 94, 3) := by decide +kernel
theorem dX9_roundsOf_30 : decode cX9_roundsOf 30 = .ok (.ifCond .eq 12, 3) := by decide +kernel
theorem dX9_roundsOf_33 : decode cX9_roundsOf 33 = .ok (.aload_n 0, 1) := by decide +kernel
theorem dX9_roundsOf_34 : decode cX9_roundsOf 34 = .ok (.getfield 39, 3) := by decide +kernel
theorem dX9_roundsOf_37 : decode cX9_roundsOf 37 = .ok (.iload_n 1, 1) := by decide +kernel
theorem dX9_roundsOf_38 : decode cX9_roundsOf 38 = .ok (.iaload, 1) := by decide +kernel
theorem dX9_roundsOf_39 : decode cX9_roundsOf 39 = .ok (.goto 4, 3) := by decide +kernel
theorem dX9_roundsOf_42 : decode cX9_roundsOf 42 = .ok (.iconst 0, 1) := by decide +kernel
theorem dX9_roundsOf_43 : decode cX9_roundsOf 43 = .ok (.ireturn, 1) := by decide +kernel
theorem dX9_trayAt_0 : decode cX9_trayAt 0 = .ok (.aload_n 0, 1) := by decide +kernel
theorem dX9_trayAt_1 : decode cX9_trayAt 1 = .ok (.aload_n 0, 1) := by decide +kernel
theorem dX9_trayAt_2 : decode cX9_trayAt 2 = .ok (.iload_n 1, 1) := by decide +kernel
theorem dX9_trayAt_3 : decode cX9_trayAt 3 = .ok (.invokevirtual 126, 3) := by decide +kernel
theorem dX9_trayAt_6 : decode cX9_trayAt 6 = .ok (.ifCond .ne 7, 3) := by decide +kernel
theorem dX9_trayAt_9 : decode cX9_trayAt 9 = .ok (.iconst 1, 1) := by decide +kernel
theorem dX9_trayAt_10 : decode cX9_trayAt 10 = .ok (.goto 18, 3) := by decide +kernel
theorem dX9_trayAt_13 : decode cX9_trayAt 13 = .ok (.aload_n 0, 1) := by decide +kernel
theorem dX9_trayAt_14 : decode cX9_trayAt 14 = .ok (.getfield 13, 3) := by decide +kernel
theorem dX9_trayAt_17 : decode cX9_trayAt 17 = .ok (.iload_n 1, 1) := by decide +kernel
theorem dX9_trayAt_18 : decode cX9_trayAt 18 = .ok (.iaload, 1) := by decide +kernel
theorem dX9_trayAt_19 : decode cX9_trayAt 19 = .ok (.iconst (-1), 1) := by decide +kernel
